-- ===== PART A: goes FIRST, ahead of the names: the tables' words, and 'selects' of the private methods out of them =====
/-- a private method of a class that the tables say can be made, by its rows of tables_1 -/
def lw_okq (q : MethodName × Nat) : Prop := (q.1.cls ≠ "java/lang/invoke/MethodHandle" ∧ q.1.cls ≠ "java/lang/invoke/VarHandle") ∧ Cond.instantiable q.1.cls q.2 ∈ tables_1 ∧ Cond.privateMethod q.1 ∈ tables_1 ∧ Cond.instanceMethod q.1 ∈ tables_1
theorem lw_p0 : lw_okq (⟨"QuorumLog$Server", "findMembers", "()V"⟩, 18) := ⟨⟨by decide +kernel, by decide +kernel⟩, List.mem_of_getElem? (i := 195) (by decide +kernel), List.mem_of_getElem? (i := 208) (by decide +kernel), List.mem_of_getElem? (i := 209) (by decide +kernel)⟩
theorem lw_p1 : lw_okq (⟨"QuorumLog$Server", "rest", "()V"⟩, 18) := ⟨⟨by decide +kernel, by decide +kernel⟩, List.mem_of_getElem? (i := 195) (by decide +kernel), List.mem_of_getElem? (i := 212) (by decide +kernel), List.mem_of_getElem? (i := 213) (by decide +kernel)⟩
theorem lw_p2 : lw_okq (⟨"QuorumLog$Server", "widen", "()V"⟩, 18) := ⟨⟨by decide +kernel, by decide +kernel⟩, List.mem_of_getElem? (i := 195) (by decide +kernel), List.mem_of_getElem? (i := 399) (by decide +kernel), List.mem_of_getElem? (i := 400) (by decide +kernel)⟩
theorem lw_p3 : lw_okq (⟨"QuorumLog", "roundsUntil", "(II)I"⟩, 2) := ⟨⟨by decide +kernel, by decide +kernel⟩, List.mem_of_getElem? (i := 24) (by decide +kernel), List.mem_of_getElem? (i := 417) (by decide +kernel), List.mem_of_getElem? (i := 418) (by decide +kernel)⟩
theorem lw_p4 : lw_okq (⟨"QuorumLog$Cluster", "sendTo", "(LQuorumLog$Server;I)V"⟩, 4) := ⟨⟨by decide +kernel, by decide +kernel⟩, List.mem_of_getElem? (i := 32) (by decide +kernel), List.mem_of_getElem? (i := 433) (by decide +kernel), List.mem_of_getElem? (i := 434) (by decide +kernel)⟩
theorem lw_p5 : lw_okq (⟨"QuorumLog$Cluster", "sounding", "(LQuorumLog$Server;)I"⟩, 4) := ⟨⟨by decide +kernel, by decide +kernel⟩, List.mem_of_getElem? (i := 32) (by decide +kernel), List.mem_of_getElem? (i := 465) (by decide +kernel), List.mem_of_getElem? (i := 466) (by decide +kernel)⟩
theorem lw_p6 : lw_okq (⟨"QuorumLog$Cluster", "askOthers", "(LQuorumLog$Server;II)V"⟩, 4) := ⟨⟨by decide +kernel, by decide +kernel⟩, List.mem_of_getElem? (i := 32) (by decide +kernel), List.mem_of_getElem? (i := 483) (by decide +kernel), List.mem_of_getElem? (i := 484) (by decide +kernel)⟩
theorem lw_p7 : lw_okq (⟨"QuorumLog$Cluster", "standing", "(LQuorumLog$Server;)I"⟩, 4) := ⟨⟨by decide +kernel, by decide +kernel⟩, List.mem_of_getElem? (i := 32) (by decide +kernel), List.mem_of_getElem? (i := 491) (by decide +kernel), List.mem_of_getElem? (i := 492) (by decide +kernel)⟩
theorem lw_p8 : lw_okq (⟨"QuorumLog$Cluster", "commit", "(LQuorumLog$Server;I)V"⟩, 4) := ⟨⟨by decide +kernel, by decide +kernel⟩, List.mem_of_getElem? (i := 32) (by decide +kernel), List.mem_of_getElem? (i := 535) (by decide +kernel), List.mem_of_getElem? (i := 536) (by decide +kernel)⟩
theorem lw_p9 : lw_okq (⟨"QuorumLog$Cluster", "onSound", "(LQuorumLog$Server;LQuorumLog$Message;)V"⟩, 4) := ⟨⟨by decide +kernel, by decide +kernel⟩, List.mem_of_getElem? (i := 32) (by decide +kernel), List.mem_of_getElem? (i := 567) (by decide +kernel), List.mem_of_getElem? (i := 568) (by decide +kernel)⟩
theorem lw_p10 : lw_okq (⟨"QuorumLog$Cluster", "reply", "(ILQuorumLog$Message;IZI)V"⟩, 4) := ⟨⟨by decide +kernel, by decide +kernel⟩, List.mem_of_getElem? (i := 32) (by decide +kernel), List.mem_of_getElem? (i := 576) (by decide +kernel), List.mem_of_getElem? (i := 577) (by decide +kernel)⟩
theorem lw_p11 : lw_okq (⟨"QuorumLog$Cluster", "onYes", "(LQuorumLog$Server;LQuorumLog$Message;II)Z"⟩, 4) := ⟨⟨by decide +kernel, by decide +kernel⟩, List.mem_of_getElem? (i := 32) (by decide +kernel), List.mem_of_getElem? (i := 580) (by decide +kernel), List.mem_of_getElem? (i := 581) (by decide +kernel)⟩
theorem lw_p12 : lw_okq (⟨"QuorumLog$Cluster", "onCall", "(LQuorumLog$Server;LQuorumLog$Message;)V"⟩, 4) := ⟨⟨by decide +kernel, by decide +kernel⟩, List.mem_of_getElem? (i := 32) (by decide +kernel), List.mem_of_getElem? (i := 584) (by decide +kernel), List.mem_of_getElem? (i := 585) (by decide +kernel)⟩
theorem lw_p13 : lw_okq (⟨"QuorumLog$Cluster", "onEntries", "(LQuorumLog$Server;LQuorumLog$Message;)V"⟩, 4) := ⟨⟨by decide +kernel, by decide +kernel⟩, List.mem_of_getElem? (i := 32) (by decide +kernel), List.mem_of_getElem? (i := 588) (by decide +kernel), List.mem_of_getElem? (i := 589) (by decide +kernel)⟩
theorem lw_p14 : lw_okq (⟨"QuorumLog$Server", "hasEntry", "(II)Z"⟩, 18) := ⟨⟨by decide +kernel, by decide +kernel⟩, List.mem_of_getElem? (i := 195) (by decide +kernel), List.mem_of_getElem? (i := 600) (by decide +kernel), List.mem_of_getElem? (i := 601) (by decide +kernel)⟩
theorem lw_p15 : lw_okq (⟨"QuorumLog$Cluster", "onAnswer", "(LQuorumLog$Server;LQuorumLog$Message;)V"⟩, 4) := ⟨⟨by decide +kernel, by decide +kernel⟩, List.mem_of_getElem? (i := 32) (by decide +kernel), List.mem_of_getElem? (i := 618) (by decide +kernel), List.mem_of_getElem? (i := 619) (by decide +kernel)⟩
def lw_privs_1 : List (MethodName × Nat) := [(⟨"QuorumLog$Server", "findMembers", "()V"⟩, 18), (⟨"QuorumLog$Server", "rest", "()V"⟩, 18), (⟨"QuorumLog$Server", "widen", "()V"⟩, 18), (⟨"QuorumLog", "roundsUntil", "(II)I"⟩, 2), (⟨"QuorumLog$Cluster", "sendTo", "(LQuorumLog$Server;I)V"⟩, 4), (⟨"QuorumLog$Cluster", "sounding", "(LQuorumLog$Server;)I"⟩, 4), (⟨"QuorumLog$Cluster", "askOthers", "(LQuorumLog$Server;II)V"⟩, 4), (⟨"QuorumLog$Cluster", "standing", "(LQuorumLog$Server;)I"⟩, 4), (⟨"QuorumLog$Cluster", "commit", "(LQuorumLog$Server;I)V"⟩, 4), (⟨"QuorumLog$Cluster", "onSound", "(LQuorumLog$Server;LQuorumLog$Message;)V"⟩, 4), (⟨"QuorumLog$Cluster", "reply", "(ILQuorumLog$Message;IZI)V"⟩, 4), (⟨"QuorumLog$Cluster", "onYes", "(LQuorumLog$Server;LQuorumLog$Message;II)Z"⟩, 4), (⟨"QuorumLog$Cluster", "onCall", "(LQuorumLog$Server;LQuorumLog$Message;)V"⟩, 4), (⟨"QuorumLog$Cluster", "onEntries", "(LQuorumLog$Server;LQuorumLog$Message;)V"⟩, 4), (⟨"QuorumLog$Server", "hasEntry", "(II)Z"⟩, 18), (⟨"QuorumLog$Cluster", "onAnswer", "(LQuorumLog$Server;LQuorumLog$Message;)V"⟩, 4)]
theorem lw_r1 : ∀ q ∈ lw_privs_1, lw_okq q := List.forall_mem_cons.mpr ⟨lw_p0, List.forall_mem_cons.mpr ⟨lw_p1, List.forall_mem_cons.mpr ⟨lw_p2, List.forall_mem_cons.mpr ⟨lw_p3, List.forall_mem_cons.mpr ⟨lw_p4, List.forall_mem_cons.mpr ⟨lw_p5, List.forall_mem_cons.mpr ⟨lw_p6, List.forall_mem_cons.mpr ⟨lw_p7, List.forall_mem_cons.mpr ⟨lw_p8, List.forall_mem_cons.mpr ⟨lw_p9, List.forall_mem_cons.mpr ⟨lw_p10, List.forall_mem_cons.mpr ⟨lw_p11, List.forall_mem_cons.mpr ⟨lw_p12, List.forall_mem_cons.mpr ⟨lw_p13, List.forall_mem_cons.mpr ⟨lw_p14, List.forall_mem_cons.mpr ⟨lw_p15, fun _ h => absurd h List.not_mem_nil⟩⟩⟩⟩⟩⟩⟩⟩⟩⟩⟩⟩⟩⟩⟩⟩
theorem lw_p16 : lw_okq (⟨"QuorumLog$Cluster", "onSnapshot", "(LQuorumLog$Server;LQuorumLog$Message;)V"⟩, 4) := ⟨⟨by decide +kernel, by decide +kernel⟩, List.mem_of_getElem? (i := 32) (by decide +kernel), List.mem_of_getElem? (i := 627) (by decide +kernel), List.mem_of_getElem? (i := 628) (by decide +kernel)⟩
theorem lw_p17 : lw_okq (⟨"QuorumLog$Server", "replaceSnapshot", "(LQuorumLog$Snapshot;I)V"⟩, 18) := ⟨⟨by decide +kernel, by decide +kernel⟩, List.mem_of_getElem? (i := 195) (by decide +kernel), List.mem_of_getElem? (i := 635) (by decide +kernel), List.mem_of_getElem? (i := 636) (by decide +kernel)⟩
theorem lw_p18 : lw_okq (⟨"QuorumLog$Cluster", "isHurried", "(LQuorumLog$Server;LQuorumLog$Message;)Z"⟩, 4) := ⟨⟨by decide +kernel, by decide +kernel⟩, List.mem_of_getElem? (i := 32) (by decide +kernel), List.mem_of_getElem? (i := 639) (by decide +kernel), List.mem_of_getElem? (i := 640) (by decide +kernel)⟩
theorem lw_p19 : lw_okq (⟨"QuorumLog$Cluster", "hasFollowedLeader", "()Z"⟩, 4) := ⟨⟨by decide +kernel, by decide +kernel⟩, List.mem_of_getElem? (i := 32) (by decide +kernel), List.mem_of_getElem? (i := 647) (by decide +kernel), List.mem_of_getElem? (i := 648) (by decide +kernel)⟩
theorem lw_p20 : lw_okq (⟨"QuorumLog$Cluster", "isFollowedByAll", "(LQuorumLog$Server;)Z"⟩, 4) := ⟨⟨by decide +kernel, by decide +kernel⟩, List.mem_of_getElem? (i := 32) (by decide +kernel), List.mem_of_getElem? (i := 651) (by decide +kernel), List.mem_of_getElem? (i := 652) (by decide +kernel)⟩
theorem lw_p21 : lw_okq (⟨"QuorumLog$Cluster", "isAgreed", "()Z"⟩, 4) := ⟨⟨by decide +kernel, by decide +kernel⟩, List.mem_of_getElem? (i := 32) (by decide +kernel), List.mem_of_getElem? (i := 659) (by decide +kernel), List.mem_of_getElem? (i := 660) (by decide +kernel)⟩
theorem lw_p22 : lw_okq (⟨"QuorumLog", "digestMessages", "(J)J"⟩, 2) := ⟨⟨by decide +kernel, by decide +kernel⟩, List.mem_of_getElem? (i := 24) (by decide +kernel), List.mem_of_getElem? (i := 685) (by decide +kernel), List.mem_of_getElem? (i := 686) (by decide +kernel)⟩
theorem lw_p23 : lw_okq (⟨"QuorumLog", "digestClients", "(J)J"⟩, 2) := ⟨⟨by decide +kernel, by decide +kernel⟩, List.mem_of_getElem? (i := 24) (by decide +kernel), List.mem_of_getElem? (i := 693) (by decide +kernel), List.mem_of_getElem? (i := 694) (by decide +kernel)⟩
theorem lw_p24 : lw_okq (⟨"QuorumLog", "digestServer", "(JLQuorumLog$Server;)J"⟩, 2) := ⟨⟨by decide +kernel, by decide +kernel⟩, List.mem_of_getElem? (i := 24) (by decide +kernel), List.mem_of_getElem? (i := 698) (by decide +kernel), List.mem_of_getElem? (i := 699) (by decide +kernel)⟩
theorem lw_p25 : lw_okq (⟨"QuorumLog", "digestLog", "(JLQuorumLog$Server;)J"⟩, 2) := ⟨⟨by decide +kernel, by decide +kernel⟩, List.mem_of_getElem? (i := 24) (by decide +kernel), List.mem_of_getElem? (i := 709) (by decide +kernel), List.mem_of_getElem? (i := 710) (by decide +kernel)⟩
theorem lw_p26 : lw_okq (⟨"QuorumLog", "digestOthers", "(JLQuorumLog$Server;)J"⟩, 2) := ⟨⟨by decide +kernel, by decide +kernel⟩, List.mem_of_getElem? (i := 24) (by decide +kernel), List.mem_of_getElem? (i := 733) (by decide +kernel), List.mem_of_getElem? (i := 734) (by decide +kernel)⟩
theorem lw_p27 : lw_okq (⟨"java/lang/Throwable", "fillInStackTrace", "(I)Ljava/lang/Throwable;"⟩, 6) := ⟨⟨by decide +kernel, by decide +kernel⟩, List.mem_of_getElem? (i := 788) (by decide +kernel), List.mem_of_getElem? (i := 786) (by decide +kernel), List.mem_of_getElem? (i := 787) (by decide +kernel)⟩
theorem lw_p28 : lw_okq (⟨"QuorumLog", "serverNumbered", "(I)LQuorumLog$Server;"⟩, 2) := ⟨⟨by decide +kernel, by decide +kernel⟩, List.mem_of_getElem? (i := 24) (by decide +kernel), List.mem_of_getElem? (i := 841) (by decide +kernel), List.mem_of_getElem? (i := 842) (by decide +kernel)⟩
theorem lw_p29 : lw_okq (⟨"QuorumLog$Server", "membersBehind", "(I)I"⟩, 18) := ⟨⟨by decide +kernel, by decide +kernel⟩, List.mem_of_getElem? (i := 195) (by decide +kernel), List.mem_of_getElem? (i := 963) (by decide +kernel), List.mem_of_getElem? (i := 964) (by decide +kernel)⟩
theorem lw_p30 : lw_okq (⟨"QuorumLog", "checkMessage", "(I)V"⟩, 2) := ⟨⟨by decide +kernel, by decide +kernel⟩, List.mem_of_getElem? (i := 24) (by decide +kernel), List.mem_of_getElem? (i := 1006) (by decide +kernel), List.mem_of_getElem? (i := 1007) (by decide +kernel)⟩
theorem lw_p31 : lw_okq (⟨"QuorumLog", "messageAt", "(I)LQuorumLog$Message;"⟩, 2) := ⟨⟨by decide +kernel, by decide +kernel⟩, List.mem_of_getElem? (i := 24) (by decide +kernel), List.mem_of_getElem? (i := 1038) (by decide +kernel), List.mem_of_getElem? (i := 1039) (by decide +kernel)⟩
def lw_privs_2 : List (MethodName × Nat) := [(⟨"QuorumLog$Cluster", "onSnapshot", "(LQuorumLog$Server;LQuorumLog$Message;)V"⟩, 4), (⟨"QuorumLog$Server", "replaceSnapshot", "(LQuorumLog$Snapshot;I)V"⟩, 18), (⟨"QuorumLog$Cluster", "isHurried", "(LQuorumLog$Server;LQuorumLog$Message;)Z"⟩, 4), (⟨"QuorumLog$Cluster", "hasFollowedLeader", "()Z"⟩, 4), (⟨"QuorumLog$Cluster", "isFollowedByAll", "(LQuorumLog$Server;)Z"⟩, 4), (⟨"QuorumLog$Cluster", "isAgreed", "()Z"⟩, 4), (⟨"QuorumLog", "digestMessages", "(J)J"⟩, 2), (⟨"QuorumLog", "digestClients", "(J)J"⟩, 2), (⟨"QuorumLog", "digestServer", "(JLQuorumLog$Server;)J"⟩, 2), (⟨"QuorumLog", "digestLog", "(JLQuorumLog$Server;)J"⟩, 2), (⟨"QuorumLog", "digestOthers", "(JLQuorumLog$Server;)J"⟩, 2), (⟨"java/lang/Throwable", "fillInStackTrace", "(I)Ljava/lang/Throwable;"⟩, 6), (⟨"QuorumLog", "serverNumbered", "(I)LQuorumLog$Server;"⟩, 2), (⟨"QuorumLog$Server", "membersBehind", "(I)I"⟩, 18), (⟨"QuorumLog", "checkMessage", "(I)V"⟩, 2), (⟨"QuorumLog", "messageAt", "(I)LQuorumLog$Message;"⟩, 2)]
theorem lw_r2 : ∀ q ∈ lw_privs_2, lw_okq q := List.forall_mem_cons.mpr ⟨lw_p16, List.forall_mem_cons.mpr ⟨lw_p17, List.forall_mem_cons.mpr ⟨lw_p18, List.forall_mem_cons.mpr ⟨lw_p19, List.forall_mem_cons.mpr ⟨lw_p20, List.forall_mem_cons.mpr ⟨lw_p21, List.forall_mem_cons.mpr ⟨lw_p22, List.forall_mem_cons.mpr ⟨lw_p23, List.forall_mem_cons.mpr ⟨lw_p24, List.forall_mem_cons.mpr ⟨lw_p25, List.forall_mem_cons.mpr ⟨lw_p26, List.forall_mem_cons.mpr ⟨lw_p27, List.forall_mem_cons.mpr ⟨lw_p28, List.forall_mem_cons.mpr ⟨lw_p29, List.forall_mem_cons.mpr ⟨lw_p30, List.forall_mem_cons.mpr ⟨lw_p31, fun _ h => absurd h List.not_mem_nil⟩⟩⟩⟩⟩⟩⟩⟩⟩⟩⟩⟩⟩⟩⟩⟩
theorem lw_p32 : lw_okq (⟨"QuorumLog", "checkRequest", "(IIII)V"⟩, 2) := ⟨⟨by decide +kernel, by decide +kernel⟩, List.mem_of_getElem? (i := 24) (by decide +kernel), List.mem_of_getElem? (i := 1077) (by decide +kernel), List.mem_of_getElem? (i := 1078) (by decide +kernel)⟩
theorem lw_p33 : lw_okq (⟨"QuorumLog", "entryOf", "(II)LQuorumLog$Entry;"⟩, 2) := ⟨⟨by decide +kernel, by decide +kernel⟩, List.mem_of_getElem? (i := 24) (by decide +kernel), List.mem_of_getElem? (i := 1288) (by decide +kernel), List.mem_of_getElem? (i := 1289) (by decide +kernel)⟩
theorem lw_p34 : lw_okq (⟨"QuorumLog$Cluster", "isFirstWithValue", "(II)Z"⟩, 4) := ⟨⟨by decide +kernel, by decide +kernel⟩, List.mem_of_getElem? (i := 32) (by decide +kernel), List.mem_of_getElem? (i := 1375) (by decide +kernel), List.mem_of_getElem? (i := 1376) (by decide +kernel)⟩
theorem lw_p35 : lw_okq (⟨"QuorumLogModel", "refuse", "(I)I"⟩, 4) := ⟨⟨by decide +kernel, by decide +kernel⟩, List.mem_of_getElem? (i := 1400) (by decide +kernel), List.mem_of_getElem? (i := 1557) (by decide +kernel), List.mem_of_getElem? (i := 1558) (by decide +kernel)⟩
theorem lw_p36 : lw_okq (⟨"QuorumLogModel", "up", "()I"⟩, 4) := ⟨⟨by decide +kernel, by decide +kernel⟩, List.mem_of_getElem? (i := 1400) (by decide +kernel), List.mem_of_getElem? (i := 1569) (by decide +kernel), List.mem_of_getElem? (i := 1570) (by decide +kernel)⟩
theorem lw_p37 : lw_okq (⟨"QuorumLogModel", "link", "(III)I"⟩, 4) := ⟨⟨by decide +kernel, by decide +kernel⟩, List.mem_of_getElem? (i := 1400) (by decide +kernel), List.mem_of_getElem? (i := 1581) (by decide +kernel), List.mem_of_getElem? (i := 1582) (by decide +kernel)⟩
theorem lw_p38 : lw_okq (⟨"QuorumLogModel", "cutLinks", "()I"⟩, 4) := ⟨⟨by decide +kernel, by decide +kernel⟩, List.mem_of_getElem? (i := 1400) (by decide +kernel), List.mem_of_getElem? (i := 1585) (by decide +kernel), List.mem_of_getElem? (i := 1586) (by decide +kernel)⟩
theorem lw_p39 : lw_okq (⟨"QuorumLogModel$State", "takeTurn", "(I)V"⟩, 28) := ⟨⟨by decide +kernel, by decide +kernel⟩, List.mem_of_getElem? (i := 1406) (by decide +kernel), List.mem_of_getElem? (i := 1604) (by decide +kernel), List.mem_of_getElem? (i := 1605) (by decide +kernel)⟩
theorem lw_p40 : lw_okq (⟨"QuorumLogModel$State", "sendLog", "(II)V"⟩, 28) := ⟨⟨by decide +kernel, by decide +kernel⟩, List.mem_of_getElem? (i := 1406) (by decide +kernel), List.mem_of_getElem? (i := 1636) (by decide +kernel), List.mem_of_getElem? (i := 1637) (by decide +kernel)⟩
theorem lw_p41 : lw_okq (⟨"QuorumLogModel$State", "send", "(IIIIII)I"⟩, 28) := ⟨⟨by decide +kernel, by decide +kernel⟩, List.mem_of_getElem? (i := 1406) (by decide +kernel), List.mem_of_getElem? (i := 1640) (by decide +kernel), List.mem_of_getElem? (i := 1641) (by decide +kernel)⟩
theorem lw_p42 : lw_okq (⟨"QuorumLogModel$State", "stand", "(I)V"⟩, 28) := ⟨⟨by decide +kernel, by decide +kernel⟩, List.mem_of_getElem? (i := 1406) (by decide +kernel), List.mem_of_getElem? (i := 1665) (by decide +kernel), List.mem_of_getElem? (i := 1666) (by decide +kernel)⟩
theorem lw_p43 : lw_okq (⟨"QuorumLogModel$State", "lead", "(I)V"⟩, 28) := ⟨⟨by decide +kernel, by decide +kernel⟩, List.mem_of_getElem? (i := 1406) (by decide +kernel), List.mem_of_getElem? (i := 1669) (by decide +kernel), List.mem_of_getElem? (i := 1670) (by decide +kernel)⟩
theorem lw_p44 : lw_okq (⟨"QuorumLogModel$State", "makeRoom", "(II)V"⟩, 28) := ⟨⟨by decide +kernel, by decide +kernel⟩, List.mem_of_getElem? (i := 1406) (by decide +kernel), List.mem_of_getElem? (i := 1681) (by decide +kernel), List.mem_of_getElem? (i := 1682) (by decide +kernel)⟩
theorem lw_p45 : lw_okq (⟨"QuorumLogModel$State", "apply", "(I)V"⟩, 28) := ⟨⟨by decide +kernel, by decide +kernel⟩, List.mem_of_getElem? (i := 1406) (by decide +kernel), List.mem_of_getElem? (i := 1689) (by decide +kernel), List.mem_of_getElem? (i := 1690) (by decide +kernel)⟩
theorem lw_p46 : lw_okq (⟨"QuorumLogModel$State", "applyRequest", "(III)V"⟩, 28) := ⟨⟨by decide +kernel, by decide +kernel⟩, List.mem_of_getElem? (i := 1406) (by decide +kernel), List.mem_of_getElem? (i := 1693) (by decide +kernel), List.mem_of_getElem? (i := 1694) (by decide +kernel)⟩
theorem lw_p47 : lw_okq (⟨"QuorumLogModel$State", "ask", "(III)V"⟩, 28) := ⟨⟨by decide +kernel, by decide +kernel⟩, List.mem_of_getElem? (i := 1406) (by decide +kernel), List.mem_of_getElem? (i := 1697) (by decide +kernel), List.mem_of_getElem? (i := 1698) (by decide +kernel)⟩
def lw_privs_3 : List (MethodName × Nat) := [(⟨"QuorumLog", "checkRequest", "(IIII)V"⟩, 2), (⟨"QuorumLog", "entryOf", "(II)LQuorumLog$Entry;"⟩, 2), (⟨"QuorumLog$Cluster", "isFirstWithValue", "(II)Z"⟩, 4), (⟨"QuorumLogModel", "refuse", "(I)I"⟩, 4), (⟨"QuorumLogModel", "up", "()I"⟩, 4), (⟨"QuorumLogModel", "link", "(III)I"⟩, 4), (⟨"QuorumLogModel", "cutLinks", "()I"⟩, 4), (⟨"QuorumLogModel$State", "takeTurn", "(I)V"⟩, 28), (⟨"QuorumLogModel$State", "sendLog", "(II)V"⟩, 28), (⟨"QuorumLogModel$State", "send", "(IIIIII)I"⟩, 28), (⟨"QuorumLogModel$State", "stand", "(I)V"⟩, 28), (⟨"QuorumLogModel$State", "lead", "(I)V"⟩, 28), (⟨"QuorumLogModel$State", "makeRoom", "(II)V"⟩, 28), (⟨"QuorumLogModel$State", "apply", "(I)V"⟩, 28), (⟨"QuorumLogModel$State", "applyRequest", "(III)V"⟩, 28), (⟨"QuorumLogModel$State", "ask", "(III)V"⟩, 28)]
theorem lw_r3 : ∀ q ∈ lw_privs_3, lw_okq q := List.forall_mem_cons.mpr ⟨lw_p32, List.forall_mem_cons.mpr ⟨lw_p33, List.forall_mem_cons.mpr ⟨lw_p34, List.forall_mem_cons.mpr ⟨lw_p35, List.forall_mem_cons.mpr ⟨lw_p36, List.forall_mem_cons.mpr ⟨lw_p37, List.forall_mem_cons.mpr ⟨lw_p38, List.forall_mem_cons.mpr ⟨lw_p39, List.forall_mem_cons.mpr ⟨lw_p40, List.forall_mem_cons.mpr ⟨lw_p41, List.forall_mem_cons.mpr ⟨lw_p42, List.forall_mem_cons.mpr ⟨lw_p43, List.forall_mem_cons.mpr ⟨lw_p44, List.forall_mem_cons.mpr ⟨lw_p45, List.forall_mem_cons.mpr ⟨lw_p46, List.forall_mem_cons.mpr ⟨lw_p47, fun _ h => absurd h List.not_mem_nil⟩⟩⟩⟩⟩⟩⟩⟩⟩⟩⟩⟩⟩⟩⟩⟩
theorem lw_p48 : lw_okq (⟨"QuorumLogModel$State", "arrive", "(IIIII)V"⟩, 28) := ⟨⟨by decide +kernel, by decide +kernel⟩, List.mem_of_getElem? (i := 1406) (by decide +kernel), List.mem_of_getElem? (i := 1713) (by decide +kernel), List.mem_of_getElem? (i := 1714) (by decide +kernel)⟩
theorem lw_p49 : lw_okq (⟨"QuorumLogModel$State", "takeEntries", "(IIIII)V"⟩, 28) := ⟨⟨by decide +kernel, by decide +kernel⟩, List.mem_of_getElem? (i := 1406) (by decide +kernel), List.mem_of_getElem? (i := 1721) (by decide +kernel), List.mem_of_getElem? (i := 1722) (by decide +kernel)⟩
theorem lw_p50 : lw_okq (⟨"QuorumLogModel$State", "isOld", "(III)Z"⟩, 28) := ⟨⟨by decide +kernel, by decide +kernel⟩, List.mem_of_getElem? (i := 1406) (by decide +kernel), List.mem_of_getElem? (i := 1725) (by decide +kernel), List.mem_of_getElem? (i := 1726) (by decide +kernel)⟩
theorem lw_p51 : lw_okq (⟨"QuorumLogModel$State", "aheadOfRun", "(II)I"⟩, 28) := ⟨⟨by decide +kernel, by decide +kernel⟩, List.mem_of_getElem? (i := 1406) (by decide +kernel), List.mem_of_getElem? (i := 1733) (by decide +kernel), List.mem_of_getElem? (i := 1734) (by decide +kernel)⟩
theorem lw_p52 : lw_okq (⟨"QuorumLogModel$State", "takeAnswer", "(IIIII)V"⟩, 28) := ⟨⟨by decide +kernel, by decide +kernel⟩, List.mem_of_getElem? (i := 1406) (by decide +kernel), List.mem_of_getElem? (i := 1738) (by decide +kernel), List.mem_of_getElem? (i := 1739) (by decide +kernel)⟩
theorem lw_p53 : lw_okq (⟨"QuorumLogModel$State", "takeSnapshot", "(IIIII)V"⟩, 28) := ⟨⟨by decide +kernel, by decide +kernel⟩, List.mem_of_getElem? (i := 1406) (by decide +kernel), List.mem_of_getElem? (i := 1742) (by decide +kernel), List.mem_of_getElem? (i := 1743) (by decide +kernel)⟩
theorem lw_p54 : lw_okq (⟨"QuorumLogModel", "isLeader", "(I)Z"⟩, 4) := ⟨⟨by decide +kernel, by decide +kernel⟩, List.mem_of_getElem? (i := 1400) (by decide +kernel), List.mem_of_getElem? (i := 1763) (by decide +kernel), List.mem_of_getElem? (i := 1764) (by decide +kernel)⟩
theorem lw_p55 : lw_okq (⟨"QuorumLogModel", "canChange", "(I)Z"⟩, 4) := ⟨⟨by decide +kernel, by decide +kernel⟩, List.mem_of_getElem? (i := 1400) (by decide +kernel), List.mem_of_getElem? (i := 1787) (by decide +kernel), List.mem_of_getElem? (i := 1788) (by decide +kernel)⟩
theorem lw_p56 : lw_okq (⟨"QuorumLogModel", "change", "(II)I"⟩, 4) := ⟨⟨by decide +kernel, by decide +kernel⟩, List.mem_of_getElem? (i := 1400) (by decide +kernel), List.mem_of_getElem? (i := 1792) (by decide +kernel), List.mem_of_getElem? (i := 1793) (by decide +kernel)⟩
theorem lw_p57 : lw_okq (⟨"QuorumLogModel", "isMessage", "(I)Z"⟩, 4) := ⟨⟨by decide +kernel, by decide +kernel⟩, List.mem_of_getElem? (i := 1400) (by decide +kernel), List.mem_of_getElem? (i := 1811) (by decide +kernel), List.mem_of_getElem? (i := 1812) (by decide +kernel)⟩
theorem lw_p58 : lw_okq (⟨"QuorumLogModel", "ofMessage", "(II)I"⟩, 4) := ⟨⟨by decide +kernel, by decide +kernel⟩, List.mem_of_getElem? (i := 1400) (by decide +kernel), List.mem_of_getElem? (i := 1830) (by decide +kernel), List.mem_of_getElem? (i := 1831) (by decide +kernel)⟩
theorem lw_p59 : lw_okq (⟨"QuorumLogModel", "ask", "(IIIII)I"⟩, 4) := ⟨⟨by decide +kernel, by decide +kernel⟩, List.mem_of_getElem? (i := 1400) (by decide +kernel), List.mem_of_getElem? (i := 1854) (by decide +kernel), List.mem_of_getElem? (i := 1855) (by decide +kernel)⟩
theorem lw_p60 : lw_okq (⟨"QuorumLogModel", "isOpen", "(I)Z"⟩, 4) := ⟨⟨by decide +kernel, by decide +kernel⟩, List.mem_of_getElem? (i := 1400) (by decide +kernel), List.mem_of_getElem? (i := 1879) (by decide +kernel), List.mem_of_getElem? (i := 1880) (by decide +kernel)⟩
theorem lw_p61 : lw_okq (⟨"QuorumLogModel", "of", "(I[I)I"⟩, 4) := ⟨⟨by decide +kernel, by decide +kernel⟩, List.mem_of_getElem? (i := 1400) (by decide +kernel), List.mem_of_getElem? (i := 1912) (by decide +kernel), List.mem_of_getElem? (i := 1913) (by decide +kernel)⟩
theorem lw_p62 : lw_okq (⟨"QuorumLogModel", "ofEntry", "(III)I"⟩, 4) := ⟨⟨by decide +kernel, by decide +kernel⟩, List.mem_of_getElem? (i := 1400) (by decide +kernel), List.mem_of_getElem? (i := 1971) (by decide +kernel), List.mem_of_getElem? (i := 1972) (by decide +kernel)⟩
theorem lw_p63 : lw_okq (⟨"QuorumLogModel", "ofOther", "(II[[I)I"⟩, 4) := ⟨⟨by decide +kernel, by decide +kernel⟩, List.mem_of_getElem? (i := 1400) (by decide +kernel), List.mem_of_getElem? (i := 2000) (by decide +kernel), List.mem_of_getElem? (i := 2001) (by decide +kernel)⟩
def lw_privs_4 : List (MethodName × Nat) := [(⟨"QuorumLogModel$State", "arrive", "(IIIII)V"⟩, 28), (⟨"QuorumLogModel$State", "takeEntries", "(IIIII)V"⟩, 28), (⟨"QuorumLogModel$State", "isOld", "(III)Z"⟩, 28), (⟨"QuorumLogModel$State", "aheadOfRun", "(II)I"⟩, 28), (⟨"QuorumLogModel$State", "takeAnswer", "(IIIII)V"⟩, 28), (⟨"QuorumLogModel$State", "takeSnapshot", "(IIIII)V"⟩, 28), (⟨"QuorumLogModel", "isLeader", "(I)Z"⟩, 4), (⟨"QuorumLogModel", "canChange", "(I)Z"⟩, 4), (⟨"QuorumLogModel", "change", "(II)I"⟩, 4), (⟨"QuorumLogModel", "isMessage", "(I)Z"⟩, 4), (⟨"QuorumLogModel", "ofMessage", "(II)I"⟩, 4), (⟨"QuorumLogModel", "ask", "(IIIII)I"⟩, 4), (⟨"QuorumLogModel", "isOpen", "(I)Z"⟩, 4), (⟨"QuorumLogModel", "of", "(I[I)I"⟩, 4), (⟨"QuorumLogModel", "ofEntry", "(III)I"⟩, 4), (⟨"QuorumLogModel", "ofOther", "(II[[I)I"⟩, 4)]
theorem lw_r4 : ∀ q ∈ lw_privs_4, lw_okq q := List.forall_mem_cons.mpr ⟨lw_p48, List.forall_mem_cons.mpr ⟨lw_p49, List.forall_mem_cons.mpr ⟨lw_p50, List.forall_mem_cons.mpr ⟨lw_p51, List.forall_mem_cons.mpr ⟨lw_p52, List.forall_mem_cons.mpr ⟨lw_p53, List.forall_mem_cons.mpr ⟨lw_p54, List.forall_mem_cons.mpr ⟨lw_p55, List.forall_mem_cons.mpr ⟨lw_p56, List.forall_mem_cons.mpr ⟨lw_p57, List.forall_mem_cons.mpr ⟨lw_p58, List.forall_mem_cons.mpr ⟨lw_p59, List.forall_mem_cons.mpr ⟨lw_p60, List.forall_mem_cons.mpr ⟨lw_p61, List.forall_mem_cons.mpr ⟨lw_p62, List.forall_mem_cons.mpr ⟨lw_p63, fun _ h => absurd h List.not_mem_nil⟩⟩⟩⟩⟩⟩⟩⟩⟩⟩⟩⟩⟩⟩⟩⟩
theorem lw_p64 : lw_okq (⟨"QuorumLogModel", "leadersNow", "()I"⟩, 4) := ⟨⟨by decide +kernel, by decide +kernel⟩, List.mem_of_getElem? (i := 1400) (by decide +kernel), List.mem_of_getElem? (i := 2020) (by decide +kernel), List.mem_of_getElem? (i := 2021) (by decide +kernel)⟩
theorem lw_p65 : lw_okq (⟨"QuorumLogModel", "roundsTill", "(II)I"⟩, 4) := ⟨⟨by decide +kernel, by decide +kernel⟩, List.mem_of_getElem? (i := 1400) (by decide +kernel), List.mem_of_getElem? (i := 2068) (by decide +kernel), List.mem_of_getElem? (i := 2069) (by decide +kernel)⟩
theorem lw_p66 : lw_okq (⟨"QuorumLogModel", "hasCome", "(II)Z"⟩, 4) := ⟨⟨by decide +kernel, by decide +kernel⟩, List.mem_of_getElem? (i := 1400) (by decide +kernel), List.mem_of_getElem? (i := 2072) (by decide +kernel), List.mem_of_getElem? (i := 2073) (by decide +kernel)⟩
theorem lw_p67 : lw_okq (⟨"QuorumLogModel", "add", "(I)V"⟩, 4) := ⟨⟨by decide +kernel, by decide +kernel⟩, List.mem_of_getElem? (i := 1400) (by decide +kernel), List.mem_of_getElem? (i := 2114) (by decide +kernel), List.mem_of_getElem? (i := 2115) (by decide +kernel)⟩
theorem lw_p68 : lw_okq (⟨"QuorumLogModel", "addServer", "(I)V"⟩, 4) := ⟨⟨by decide +kernel, by decide +kernel⟩, List.mem_of_getElem? (i := 1400) (by decide +kernel), List.mem_of_getElem? (i := 2120) (by decide +kernel), List.mem_of_getElem? (i := 2121) (by decide +kernel)⟩
def lw_privs_5 : List (MethodName × Nat) := [(⟨"QuorumLogModel", "leadersNow", "()I"⟩, 4), (⟨"QuorumLogModel", "roundsTill", "(II)I"⟩, 4), (⟨"QuorumLogModel", "hasCome", "(II)Z"⟩, 4), (⟨"QuorumLogModel", "add", "(I)V"⟩, 4), (⟨"QuorumLogModel", "addServer", "(I)V"⟩, 4)]
theorem lw_r5 : ∀ q ∈ lw_privs_5, lw_okq q := List.forall_mem_cons.mpr ⟨lw_p64, List.forall_mem_cons.mpr ⟨lw_p65, List.forall_mem_cons.mpr ⟨lw_p66, List.forall_mem_cons.mpr ⟨lw_p67, List.forall_mem_cons.mpr ⟨lw_p68, fun _ h => absurd h List.not_mem_nil⟩⟩⟩⟩⟩
def lw_privs : List (MethodName × Nat) := lw_privs_1 ++ (lw_privs_2 ++ (lw_privs_3 ++ (lw_privs_4 ++ (lw_privs_5))))
def lw_tbl : List Cond := k2_sels lw_privs ++ tables_1
theorem lw_privs_ok : ∀ q ∈ lw_privs, lw_okq q := by
  show ∀ q ∈ lw_privs_1 ++ (lw_privs_2 ++ (lw_privs_3 ++ (lw_privs_4 ++ (lw_privs_5)))), lw_okq q
  exact List.forall_mem_append.mpr ⟨lw_r1, List.forall_mem_append.mpr ⟨lw_r2, List.forall_mem_append.mpr ⟨lw_r3, List.forall_mem_append.mpr ⟨lw_r4, lw_r5⟩⟩⟩⟩
/-- the streams that the claim lets the run draw from -/
abbrev lw_cs : List Choice := [Jvm.Choice.named "NaN.bits"]
theorem lw_bits : nanBits ∈ lw_cs := by first | decide | exact List.mem_cons_self | simp [lw_cs, nanBits]
-- ===== end of PART A; then your names; then what follows =====
def RX0 : String := "QuorumLog$Client"
def TX0 : u_T := fun k => match k with
  | 0 => ("QuorumLog$Client", "request", "LQuorumLog$Request;", false)
  | 1 => ("QuorumLog$Client", "answered", "Z", false)
  | _ => ("QuorumLog$Client", "answer", "I", false)
def tyX0 : Nat → FieldType := fun k => match k with
  | 0 => .object "QuorumLog$Request"
  | 1 => .boolean
  | _ => .int
abbrev wsX00 : List Cond := u_ws RX0 TX0 3
theorem nmX0 : ∀ a, a < 3 → ∀ b, b < 3 → a ≠ b → (TX0 a).2.1 ≠ (TX0 b).2.1 := by decide +kernel
theorem tyX0_ok : ∀ k, k < 3 → parseFieldDescriptor (TX0 k).2.2.1 = some (tyX0 k) := by decide +kernel
abbrev cX0_init : ByteArray := prog_2_method_1_code
def yX0_init : MethodName := ⟨RX0, "<init>", "()V"⟩
abbrev cX0_forget : ByteArray := prog_2_method_2_code
def yX0_forget : MethodName := ⟨RX0, "forget", "()V"⟩
abbrev cX0_copyFrom : ByteArray := prog_2_method_3_code
def yX0_copyFrom : MethodName := ⟨RX0, "copyFrom", "(LQuorumLog$Client;)V"⟩
abbrev cX0_serial : ByteArray := prog_2_method_4_code
def yX0_serial : MethodName := ⟨RX0, "serial", "()I"⟩
abbrev cX0_waits : ByteArray := prog_2_method_5_code
def yX0_waits : MethodName := ⟨RX0, "waits", "()Z"⟩
abbrev cX0_ask : ByteArray := prog_2_method_6_code
def yX0_ask : MethodName := ⟨RX0, "ask", "(IIIII)I"⟩
def RX1 : String := "QuorumLog$Cluster"
def TX1 : u_T := fun k => match k with
  | 0 => ("QuorumLog$Cluster", "servers", "[LQuorumLog$Server;", true)
  | 1 => ("QuorumLog$Cluster", "clients", "[LQuorumLog$Client;", true)
  | 2 => ("QuorumLog$Cluster", "network", "LQuorumLog$Network;", true)
  | _ => ("QuorumLog$Cluster", "rounds", "I", false)
def tyX1 : Nat → FieldType := fun k => match k with
  | 0 => .array (.object "QuorumLog$Server")
  | 1 => .array (.object "QuorumLog$Client")
  | 2 => .object "QuorumLog$Network"
  | _ => .int
abbrev wsX10 : List Cond := u_ws RX1 TX1 4
theorem nmX1 : ∀ a, a < 4 → ∀ b, b < 4 → a ≠ b → (TX1 a).2.1 ≠ (TX1 b).2.1 := by decide +kernel
theorem tyX1_ok : ∀ k, k < 4 → parseFieldDescriptor (TX1 k).2.2.1 = some (tyX1 k) := by decide +kernel
abbrev cX1_init : ByteArray := prog_3_method_1_code
def yX1_init : MethodName := ⟨RX1, "<init>", "()V"⟩
abbrev cX1_firstSnapshot : ByteArray := prog_3_method_2_code
def yX1_firstSnapshot : MethodName := ⟨RX1, "firstSnapshot", "(I)LQuorumLog$Snapshot;"⟩
abbrev cX1_begin : ByteArray := prog_3_method_3_code
def yX1_begin : MethodName := ⟨RX1, "begin", "(I)V"⟩
abbrev cX1_copyFrom : ByteArray := prog_3_method_4_code
def yX1_copyFrom : MethodName := ⟨RX1, "copyFrom", "(LQuorumLog$Cluster;)V"⟩
abbrev cX1_countUp : ByteArray := prog_3_method_5_code
def yX1_countUp : MethodName := ⟨RX1, "countUp", "()I"⟩
abbrev cX1_countLeaders : ByteArray := prog_3_method_6_code
def yX1_countLeaders : MethodName := ⟨RX1, "countLeaders", "()I"⟩
abbrev cX1_newestLeader : ByteArray := prog_3_method_7_code
def yX1_newestLeader : MethodName := ⟨RX1, "newestLeader", "()LQuorumLog$Server;"⟩
abbrev cX1_countCopies : ByteArray := prog_3_method_8_code
def yX1_countCopies : MethodName := ⟨RX1, "countCopies", "(LQuorumLog$Server;II)I"⟩
abbrev cX1_isElectable : ByteArray := prog_3_method_9_code
def yX1_isElectable : MethodName := ⟨RX1, "isElectable", "(LQuorumLog$Server;)Z"⟩
abbrev cX1_countValues : ByteArray := prog_3_method_10_code
def yX1_countValues : MethodName := ⟨RX1, "countValues", "(I)I"⟩
abbrev cX1_isFirstWithValue : ByteArray := prog_3_method_11_code
def yX1_isFirstWithValue : MethodName := ⟨RX1, "isFirstWithValue", "(II)Z"⟩
abbrev cX1_hasReached : ByteArray := prog_3_method_12_code
def yX1_hasReached : MethodName := ⟨RX1, "hasReached", "(II)Z"⟩
abbrev cX1_hasFollowedLeader : ByteArray := prog_3_method_13_code
def yX1_hasFollowedLeader : MethodName := ⟨RX1, "hasFollowedLeader", "()Z"⟩
abbrev cX1_isFollowedByAll : ByteArray := prog_3_method_14_code
def yX1_isFollowedByAll : MethodName := ⟨RX1, "isFollowedByAll", "(LQuorumLog$Server;)Z"⟩
abbrev cX1_isAgreed : ByteArray := prog_3_method_15_code
def yX1_isAgreed : MethodName := ⟨RX1, "isAgreed", "()Z"⟩
abbrev cX1_playRound : ByteArray := prog_3_method_16_code
def yX1_playRound : MethodName := ⟨RX1, "playRound", "()V"⟩
abbrev cX1_rise : ByteArray := prog_3_method_17_code
def yX1_rise : MethodName := ⟨RX1, "rise", "(LQuorumLog$Server;I)V"⟩
abbrev cX1_sounding : ByteArray := prog_3_method_18_code
def yX1_sounding : MethodName := ⟨RX1, "sounding", "(LQuorumLog$Server;)I"⟩
abbrev cX1_standing : ByteArray := prog_3_method_19_code
def yX1_standing : MethodName := ⟨RX1, "standing", "(LQuorumLog$Server;)I"⟩
abbrev cX1_askOthers : ByteArray := prog_3_method_20_code
def yX1_askOthers : MethodName := ⟨RX1, "askOthers", "(LQuorumLog$Server;II)V"⟩
abbrev cX1_sendToOthers : ByteArray := prog_3_method_21_code
def yX1_sendToOthers : MethodName := ⟨RX1, "sendToOthers", "(LQuorumLog$Server;)I"⟩
abbrev cX1_sendTo : ByteArray := prog_3_method_22_code
def yX1_sendTo : MethodName := ⟨RX1, "sendTo", "(LQuorumLog$Server;I)V"⟩
abbrev cX1_lookCommitted : ByteArray := prog_3_method_23_code
def yX1_lookCommitted : MethodName := ⟨RX1, "lookCommitted", "(LQuorumLog$Server;)V"⟩
abbrev cX1_commit : ByteArray := prog_3_method_24_code
def yX1_commit : MethodName := ⟨RX1, "commit", "(LQuorumLog$Server;I)V"⟩
abbrev cX1_handle : ByteArray := prog_3_method_25_code
def yX1_handle : MethodName := ⟨RX1, "handle", "(I)Z"⟩
abbrev cX1_reply : ByteArray := prog_3_method_26_code
def yX1_reply : MethodName := ⟨RX1, "reply", "(ILQuorumLog$Message;IZI)V"⟩
abbrev cX1_onSound : ByteArray := prog_3_method_27_code
def yX1_onSound : MethodName := ⟨RX1, "onSound", "(LQuorumLog$Server;LQuorumLog$Message;)V"⟩
abbrev cX1_onCall : ByteArray := prog_3_method_28_code
def yX1_onCall : MethodName := ⟨RX1, "onCall", "(LQuorumLog$Server;LQuorumLog$Message;)V"⟩
abbrev cX1_onYes : ByteArray := prog_3_method_29_code
def yX1_onYes : MethodName := ⟨RX1, "onYes", "(LQuorumLog$Server;LQuorumLog$Message;II)Z"⟩
abbrev cX1_onEntries : ByteArray := prog_3_method_30_code
def yX1_onEntries : MethodName := ⟨RX1, "onEntries", "(LQuorumLog$Server;LQuorumLog$Message;)V"⟩
abbrev cX1_onSnapshot : ByteArray := prog_3_method_31_code
def yX1_onSnapshot : MethodName := ⟨RX1, "onSnapshot", "(LQuorumLog$Server;LQuorumLog$Message;)V"⟩
abbrev cX1_onAnswer : ByteArray := prog_3_method_32_code
def yX1_onAnswer : MethodName := ⟨RX1, "onAnswer", "(LQuorumLog$Server;LQuorumLog$Message;)V"⟩
abbrev cX1_isHurried : ByteArray := prog_3_method_33_code
def yX1_isHurried : MethodName := ⟨RX1, "isHurried", "(LQuorumLog$Server;LQuorumLog$Message;)Z"⟩
def RX2 : String := "QuorumLog$Entry"
def TX2 : u_T := fun k => match k with
  | 0 => ("QuorumLog$Entry", "term", "I", true)
  | 1 => ("QuorumLog$Entry", "kind", "I", true)
  | 2 => ("QuorumLog$Entry", "request", "LQuorumLog$Request;", true)
  | _ => ("QuorumLog$Entry", "members", "I", true)
def tyX2 : Nat → FieldType := fun k => match k with
  | 0 => .int
  | 1 => .int
  | 2 => .object "QuorumLog$Request"
  | _ => .int
abbrev wsX20 : List Cond := u_ws RX2 TX2 4
theorem nmX2 : ∀ a, a < 4 → ∀ b, b < 4 → a ≠ b → (TX2 a).2.1 ≠ (TX2 b).2.1 := by decide +kernel
theorem tyX2_ok : ∀ k, k < 4 → parseFieldDescriptor (TX2 k).2.2.1 = some (tyX2 k) := by decide +kernel
abbrev cX2_init : ByteArray := prog_4_method_1_code
def yX2_init : MethodName := ⟨RX2, "<init>", "(IILQuorumLog$Request;I)V"⟩
abbrev cX2_value : ByteArray := prog_4_method_2_code
def yX2_value : MethodName := ⟨RX2, "value", "()I"⟩
abbrev cX2_client : ByteArray := prog_4_method_3_code
def yX2_client : MethodName := ⟨RX2, "client", "()I"⟩
abbrev cX2_serial : ByteArray := prog_4_method_4_code
def yX2_serial : MethodName := ⟨RX2, "serial", "()I"⟩
def RX3 : String := "QuorumLog$Message"
def TX3 : u_T := fun k => match k with
  | 0 => ("QuorumLog$Message", "entries", "[LQuorumLog$Entry;", true)
  | 1 => ("QuorumLog$Message", "kind", "I", false)
  | 2 => ("QuorumLog$Message", "sender", "I", false)
  | 3 => ("QuorumLog$Message", "receiver", "I", false)
  | 4 => ("QuorumLog$Message", "term", "I", false)
  | 5 => ("QuorumLog$Message", "yes", "Z", false)
  | 6 => ("QuorumLog$Message", "index", "I", false)
  | 7 => ("QuorumLog$Message", "logTerm", "I", false)
  | 8 => ("QuorumLog$Message", "committed", "I", false)
  | 9 => ("QuorumLog$Message", "count", "I", false)
  | _ => ("QuorumLog$Message", "snapshot", "LQuorumLog$Snapshot;", false)
def tyX3 : Nat → FieldType := fun k => match k with
  | 0 => .array (.object "QuorumLog$Entry")
  | 1 => .int
  | 2 => .int
  | 3 => .int
  | 4 => .int
  | 5 => .boolean
  | 6 => .int
  | 7 => .int
  | 8 => .int
  | 9 => .int
  | _ => .object "QuorumLog$Snapshot"
abbrev wsX30 : List Cond := u_ws RX3 TX3 11
theorem nmX3 : ∀ a, a < 11 → ∀ b, b < 11 → a ≠ b → (TX3 a).2.1 ≠ (TX3 b).2.1 := by decide +kernel
theorem tyX3_ok : ∀ k, k < 11 → parseFieldDescriptor (TX3 k).2.2.1 = some (tyX3 k) := by decide +kernel
abbrev cX3_init : ByteArray := prog_5_method_1_code
def yX3_init : MethodName := ⟨RX3, "<init>", "()V"⟩
abbrev cX3_copyFrom : ByteArray := prog_5_method_2_code
def yX3_copyFrom : MethodName := ⟨RX3, "copyFrom", "(LQuorumLog$Message;)V"⟩
abbrev cX3_told : ByteArray := prog_5_method_3_code
def yX3_told : MethodName := ⟨RX3, "told", "()I"⟩
abbrev cX3_bearsItsTerm : ByteArray := prog_5_method_4_code
def yX3_bearsItsTerm : MethodName := ⟨RX3, "bearsItsTerm", "()Z"⟩
def RX4 : String := "QuorumLog$Network"
def TX4 : u_T := fun k => match k with
  | 0 => ("QuorumLog$Network", "row", "[LQuorumLog$Message;", true)
  | 1 => ("QuorumLog$Network", "cuts", "[I", true)
  | 2 => ("QuorumLog$Network", "inHand", "LQuorumLog$Message;", false)
  | 3 => ("QuorumLog$Network", "count", "I", false)
  | 4 => ("QuorumLog$Network", "cutLinks", "I", false)
  | _ => ("QuorumLog$Network", "losses", "I", false)
def tyX4 : Nat → FieldType := fun k => match k with
  | 0 => .array (.object "QuorumLog$Message")
  | 1 => .array .int
  | 2 => .object "QuorumLog$Message"
  | 3 => .int
  | 4 => .int
  | _ => .int
abbrev wsX40 : List Cond := u_ws RX4 TX4 6
theorem nmX4 : ∀ a, a < 6 → ∀ b, b < 6 → a ≠ b → (TX4 a).2.1 ≠ (TX4 b).2.1 := by decide +kernel
theorem tyX4_ok : ∀ k, k < 6 → parseFieldDescriptor (TX4 k).2.2.1 = some (tyX4 k) := by decide +kernel
abbrev cX4_init : ByteArray := prog_6_method_1_code
def yX4_init : MethodName := ⟨RX4, "<init>", "()V"⟩
abbrev cX4_clear : ByteArray := prog_6_method_2_code
def yX4_clear : MethodName := ⟨RX4, "clear", "()V"⟩
abbrev cX4_copyFrom : ByteArray := prog_6_method_3_code
def yX4_copyFrom : MethodName := ⟨RX4, "copyFrom", "(LQuorumLog$Network;)V"⟩
abbrev cX4_isCut : ByteArray := prog_6_method_4_code
def yX4_isCut : MethodName := ⟨RX4, "isCut", "(II)Z"⟩
abbrev cX4_turn : ByteArray := prog_6_method_5_code
def yX4_turn : MethodName := ⟨RX4, "turn", "(II)I"⟩
abbrev cX4_place : ByteArray := prog_6_method_6_code
def yX4_place : MethodName := ⟨RX4, "place", "(IIII)LQuorumLog$Message;"⟩
abbrev cX4_repeat : ByteArray := prog_6_method_7_code
def yX4_repeat : MethodName := ⟨RX4, "repeat", "(I)I"⟩
abbrev cX4_takeOut : ByteArray := prog_6_method_8_code
def yX4_takeOut : MethodName := ⟨RX4, "takeOut", "(I)LQuorumLog$Message;"⟩
def RX5 : String := "QuorumLog$Request"
def TX5 : u_T := fun k => match k with
  | 0 => ("QuorumLog$Request", "client", "I", true)
  | 1 => ("QuorumLog$Request", "serial", "I", true)
  | 2 => ("QuorumLog$Request", "kind", "I", true)
  | 3 => ("QuorumLog$Request", "key", "I", true)
  | 4 => ("QuorumLog$Request", "expected", "I", true)
  | _ => ("QuorumLog$Request", "value", "I", true)
def tyX5 : Nat → FieldType := fun k => match k with
  | 0 => .int
  | 1 => .int
  | 2 => .int
  | 3 => .int
  | 4 => .int
  | _ => .int
abbrev wsX50 : List Cond := u_ws RX5 TX5 6
theorem nmX5 : ∀ a, a < 6 → ∀ b, b < 6 → a ≠ b → (TX5 a).2.1 ≠ (TX5 b).2.1 := by decide +kernel
theorem tyX5_ok : ∀ k, k < 6 → parseFieldDescriptor (TX5 k).2.2.1 = some (tyX5 k) := by decide +kernel
abbrev cX5_init : ByteArray := prog_7_method_1_code
def yX5_init : MethodName := ⟨RX5, "<init>", "(IIIIII)V"⟩
def RX6 : String := "QuorumLog$Server"
def TX6 : u_T := fun k => match k with
  | 0 => ("QuorumLog$Server", "number", "I", true)
  | 1 => ("QuorumLog$Server", "table", "LQuorumLog$Table;", true)
  | 2 => ("QuorumLog$Server", "next", "[I", true)
  | 3 => ("QuorumLog$Server", "matched", "[I", true)
  | 4 => ("QuorumLog$Server", "up", "Z", false)
  | 5 => ("QuorumLog$Server", "term", "I", false)
  | 6 => ("QuorumLog$Server", "vote", "I", false)
  | 7 => ("QuorumLog$Server", "log", "[LQuorumLog$Entry;", false)
  | 8 => ("QuorumLog$Server", "count", "I", false)
  | 9 => ("QuorumLog$Server", "snapshot", "LQuorumLog$Snapshot;", false)
  | 10 => ("QuorumLog$Server", "members", "I", false)
  | 11 => ("QuorumLog$Server", "membersIndex", "I", false)
  | 12 => ("QuorumLog$Server", "role", "I", false)
  | 13 => ("QuorumLog$Server", "followed", "I", false)
  | 14 => ("QuorumLog$Server", "waited", "I", false)
  | 15 => ("QuorumLog$Server", "committed", "I", false)
  | 16 => ("QuorumLog$Server", "yeses", "I", false)
  | _ => ("QuorumLog$Server", "beatSteps", "I", false)
def tyX6 : Nat → FieldType := fun k => match k with
  | 0 => .int
  | 1 => .object "QuorumLog$Table"
  | 2 => .array .int
  | 3 => .array .int
  | 4 => .boolean
  | 5 => .int
  | 6 => .int
  | 7 => .array (.object "QuorumLog$Entry")
  | 8 => .int
  | 9 => .object "QuorumLog$Snapshot"
  | 10 => .int
  | 11 => .int
  | 12 => .int
  | 13 => .int
  | 14 => .int
  | 15 => .int
  | 16 => .int
  | _ => .int
abbrev wsX60 : List Cond := u_ws RX6 TX6 18
theorem nmX6 : ∀ a, a < 18 → ∀ b, b < 18 → a ≠ b → (TX6 a).2.1 ≠ (TX6 b).2.1 := by decide +kernel
theorem tyX6_ok : ∀ k, k < 18 → parseFieldDescriptor (TX6 k).2.2.1 = some (tyX6 k) := by decide +kernel
abbrev cX6_init : ByteArray := prog_8_method_1_code
def yX6_init : MethodName := ⟨RX6, "<init>", "(ILQuorumLog$Snapshot;)V"⟩
abbrev cX6_reset : ByteArray := prog_8_method_2_code
def yX6_reset : MethodName := ⟨RX6, "reset", "(LQuorumLog$Snapshot;)V"⟩
abbrev cX6_rest : ByteArray := prog_8_method_3_code
def yX6_rest : MethodName := ⟨RX6, "rest", "()V"⟩
abbrev cX6_goDown : ByteArray := prog_8_method_4_code
def yX6_goDown : MethodName := ⟨RX6, "goDown", "()V"⟩
abbrev cX6_copyFrom : ByteArray := prog_8_method_5_code
def yX6_copyFrom : MethodName := ⟨RX6, "copyFrom", "(LQuorumLog$Server;)V"⟩
abbrev cX6_patience : ByteArray := prog_8_method_6_code
def yX6_patience : MethodName := ⟨RX6, "patience", "()I"⟩
abbrev cX6_lastIndex : ByteArray := prog_8_method_7_code
def yX6_lastIndex : MethodName := ⟨RX6, "lastIndex", "()I"⟩
abbrev cX6_lastTerm : ByteArray := prog_8_method_8_code
def yX6_lastTerm : MethodName := ⟨RX6, "lastTerm", "()I"⟩
abbrev cX6_entryAt : ByteArray := prog_8_method_9_code
def yX6_entryAt : MethodName := ⟨RX6, "entryAt", "(I)LQuorumLog$Entry;"⟩
abbrev cX6_termOfIndex : ByteArray := prog_8_method_10_code
def yX6_termOfIndex : MethodName := ⟨RX6, "termOfIndex", "(I)I"⟩
abbrev cX6_seesMember : ByteArray := prog_8_method_11_code
def yX6_seesMember : MethodName := ⟨RX6, "seesMember", "(I)Z"⟩
abbrev cX6_isMember : ByteArray := prog_8_method_12_code
def yX6_isMember : MethodName := ⟨RX6, "isMember", "()Z"⟩
abbrev cX6_hasMostYeses : ByteArray := prog_8_method_13_code
def yX6_hasMostYeses : MethodName := ⟨RX6, "hasMostYeses", "()Z"⟩
abbrev cX6_mostHave : ByteArray := prog_8_method_14_code
def yX6_mostHave : MethodName := ⟨RX6, "mostHave", "(I)Z"⟩
abbrev cX6_maySound : ByteArray := prog_8_method_15_code
def yX6_maySound : MethodName := ⟨RX6, "maySound", "()Z"⟩
abbrev cX6_mayChangeMembers : ByteArray := prog_8_method_16_code
def yX6_mayChangeMembers : MethodName := ⟨RX6, "mayChangeMembers", "()Z"⟩
abbrev cX6_isReachedBy : ByteArray := prog_8_method_17_code
def yX6_isReachedBy : MethodName := ⟨RX6, "isReachedBy", "(II)Z"⟩
abbrev cX6_agreement : ByteArray := prog_8_method_18_code
def yX6_agreement : MethodName := ⟨RX6, "agreement", "(LQuorumLog$Server;)I"⟩
abbrev cX6_append : ByteArray := prog_8_method_19_code
def yX6_append : MethodName := ⟨RX6, "append", "(LQuorumLog$Entry;)V"⟩
abbrev cX6_widen : ByteArray := prog_8_method_20_code
def yX6_widen : MethodName := ⟨RX6, "widen", "()V"⟩
abbrev cX6_findMembers : ByteArray := prog_8_method_21_code
def yX6_findMembers : MethodName := ⟨RX6, "findMembers", "()V"⟩
abbrev cX6_membersBehind : ByteArray := prog_8_method_22_code
def yX6_membersBehind : MethodName := ⟨RX6, "membersBehind", "(I)I"⟩
abbrev cX6_makeSnapshot : ByteArray := prog_8_method_23_code
def yX6_makeSnapshot : MethodName := ⟨RX6, "makeSnapshot", "()I"⟩
abbrev cX6_install : ByteArray := prog_8_method_24_code
def yX6_install : MethodName := ⟨RX6, "install", "(LQuorumLog$Snapshot;)V"⟩
abbrev cX6_replaceSnapshot : ByteArray := prog_8_method_25_code
def yX6_replaceSnapshot : MethodName := ⟨RX6, "replaceSnapshot", "(LQuorumLog$Snapshot;I)V"⟩
abbrev cX6_hasEntry : ByteArray := prog_8_method_26_code
def yX6_hasEntry : MethodName := ⟨RX6, "hasEntry", "(II)Z"⟩
abbrev cX6_hasPrevious : ByteArray := prog_8_method_27_code
def yX6_hasPrevious : MethodName := ⟨RX6, "hasPrevious", "(II)Z"⟩
abbrev cX6_indexToTryNext : ByteArray := prog_8_method_28_code
def yX6_indexToTryNext : MethodName := ⟨RX6, "indexToTryNext", "(I)I"⟩
abbrev cX6_accept : ByteArray := prog_8_method_29_code
def yX6_accept : MethodName := ⟨RX6, "accept", "(ILQuorumLog$Entry;)V"⟩
abbrev cX6_enterTerm : ByteArray := prog_8_method_30_code
def yX6_enterTerm : MethodName := ⟨RX6, "enterTerm", "(I)V"⟩
abbrev cX6_obey : ByteArray := prog_8_method_31_code
def yX6_obey : MethodName := ⟨RX6, "obey", "(I)V"⟩
abbrev cX6_startAs : ByteArray := prog_8_method_32_code
def yX6_startAs : MethodName := ⟨RX6, "startAs", "(I)V"⟩
abbrev cX6_startLeading : ByteArray := prog_8_method_33_code
def yX6_startLeading : MethodName := ⟨RX6, "startLeading", "()V"⟩
abbrev cX6_learnMatched : ByteArray := prog_8_method_34_code
def yX6_learnMatched : MethodName := ⟨RX6, "learnMatched", "(II)V"⟩
def RX7 : String := "QuorumLog$Snapshot"
def TX7 : u_T := fun k => match k with
  | 0 => ("QuorumLog$Snapshot", "index", "I", true)
  | 1 => ("QuorumLog$Snapshot", "term", "I", true)
  | 2 => ("QuorumLog$Snapshot", "members", "I", true)
  | _ => ("QuorumLog$Snapshot", "table", "LQuorumLog$Table;", true)
def tyX7 : Nat → FieldType := fun k => match k with
  | 0 => .int
  | 1 => .int
  | 2 => .int
  | _ => .object "QuorumLog$Table"
abbrev wsX70 : List Cond := u_ws RX7 TX7 4
theorem nmX7 : ∀ a, a < 4 → ∀ b, b < 4 → a ≠ b → (TX7 a).2.1 ≠ (TX7 b).2.1 := by decide +kernel
theorem tyX7_ok : ∀ k, k < 4 → parseFieldDescriptor (TX7 k).2.2.1 = some (tyX7 k) := by decide +kernel
abbrev cX7_init : ByteArray := prog_9_method_1_code
def yX7_init : MethodName := ⟨RX7, "<init>", "(IIILQuorumLog$Table;)V"⟩
def RX8 : String := "QuorumLog$Table"
def TX8 : u_T := fun k => match k with
  | 0 => ("QuorumLog$Table", "values", "[I", true)
  | 1 => ("QuorumLog$Table", "serials", "[I", true)
  | _ => ("QuorumLog$Table", "given", "[I", true)
def tyX8 : Nat → FieldType := fun k => match k with
  | 0 => .array .int
  | 1 => .array .int
  | _ => .array .int
abbrev wsX80 : List Cond := u_ws RX8 TX8 3
theorem nmX8 : ∀ a, a < 3 → ∀ b, b < 3 → a ≠ b → (TX8 a).2.1 ≠ (TX8 b).2.1 := by decide +kernel
theorem tyX8_ok : ∀ k, k < 3 → parseFieldDescriptor (TX8 k).2.2.1 = some (tyX8 k) := by decide +kernel
abbrev cX8_init : ByteArray := prog_10_method_1_code
def yX8_init : MethodName := ⟨RX8, "<init>", "()V"⟩
abbrev cX8_copyFrom : ByteArray := prog_10_method_2_code
def yX8_copyFrom : MethodName := ⟨RX8, "copyFrom", "(LQuorumLog$Table;)V"⟩
abbrev cX8_apply : ByteArray := prog_10_method_3_code
def yX8_apply : MethodName := ⟨RX8, "apply", "(LQuorumLog$Request;)V"⟩
def RX9 : String := "QuorumLog"
def TX9 : u_T := fun k => match k with
  | 0 => ("QuorumLog", "now", "LQuorumLog$Cluster;", true)
  | _ => ("QuorumLog", "guess", "LQuorumLog$Cluster;", true)
def tyX9 : Nat → FieldType := fun k => match k with
  | 0 => .object "QuorumLog$Cluster"
  | _ => .object "QuorumLog$Cluster"
abbrev wsX90 : List Cond := u_ws RX9 TX9 2
theorem nmX9 : ∀ a, a < 2 → ∀ b, b < 2 → a ≠ b → (TX9 a).2.1 ≠ (TX9 b).2.1 := by decide +kernel
theorem tyX9_ok : ∀ k, k < 2 → parseFieldDescriptor (TX9 k).2.2.1 = some (tyX9 k) := by decide +kernel
abbrev cX9_init : ByteArray := prog_1_method_1_code
def yX9_init : MethodName := ⟨RX9, "<init>", "()V"⟩
abbrev cX9_found : ByteArray := prog_1_method_2_code
def yX9_found : MethodName := ⟨RX9, "found", "(I)I"⟩
abbrev cX9_fail : ByteArray := prog_1_method_3_code
def yX9_fail : MethodName := ⟨RX9, "fail", "(I)I"⟩
abbrev cX9_recover : ByteArray := prog_1_method_4_code
def yX9_recover : MethodName := ⟨RX9, "recover", "(I)I"⟩
abbrev cX9_cut : ByteArray := prog_1_method_5_code
def yX9_cut : MethodName := ⟨RX9, "cut", "(II)I"⟩
abbrev cX9_mend : ByteArray := prog_1_method_6_code
def yX9_mend : MethodName := ⟨RX9, "mend", "(II)I"⟩
abbrev cX9_pass : ByteArray := prog_1_method_7_code
def yX9_pass : MethodName := ⟨RX9, "pass", "(I)I"⟩
abbrev cX9_sound : ByteArray := prog_1_method_8_code
def yX9_sound : MethodName := ⟨RX9, "sound", "(I)I"⟩
abbrev cX9_beat : ByteArray := prog_1_method_9_code
def yX9_beat : MethodName := ⟨RX9, "beat", "(I)I"⟩
abbrev cX9_shorten : ByteArray := prog_1_method_10_code
def yX9_shorten : MethodName := ⟨RX9, "shorten", "(I)I"⟩
abbrev cX9_handOver : ByteArray := prog_1_method_11_code
def yX9_handOver : MethodName := ⟨RX9, "handOver", "(II)I"⟩
abbrev cX9_join : ByteArray := prog_1_method_12_code
def yX9_join : MethodName := ⟨RX9, "join", "(II)I"⟩
abbrev cX9_leave : ByteArray := prog_1_method_13_code
def yX9_leave : MethodName := ⟨RX9, "leave", "(II)I"⟩
abbrev cX9_messages : ByteArray := prog_1_method_14_code
def yX9_messages : MethodName := ⟨RX9, "messages", "()I"⟩
abbrev cX9_deliver : ByteArray := prog_1_method_15_code
def yX9_deliver : MethodName := ⟨RX9, "deliver", "(I)Z"⟩
abbrev cX9_lose : ByteArray := prog_1_method_16_code
def yX9_lose : MethodName := ⟨RX9, "lose", "(I)I"⟩
abbrev cX9_twice : ByteArray := prog_1_method_17_code
def yX9_twice : MethodName := ⟨RX9, "twice", "(I)I"⟩
abbrev cX9_kindOfMessage : ByteArray := prog_1_method_18_code
def yX9_kindOfMessage : MethodName := ⟨RX9, "kindOfMessage", "(I)I"⟩
abbrev cX9_senderOf : ByteArray := prog_1_method_19_code
def yX9_senderOf : MethodName := ⟨RX9, "senderOf", "(I)I"⟩
abbrev cX9_receiverOf : ByteArray := prog_1_method_20_code
def yX9_receiverOf : MethodName := ⟨RX9, "receiverOf", "(I)I"⟩
abbrev cX9_termOfMessage : ByteArray := prog_1_method_21_code
def yX9_termOfMessage : MethodName := ⟨RX9, "termOfMessage", "(I)I"⟩
abbrev cX9_tells : ByteArray := prog_1_method_22_code
def yX9_tells : MethodName := ⟨RX9, "tells", "(I)I"⟩
abbrev cX9_askPut : ByteArray := prog_1_method_23_code
def yX9_askPut : MethodName := ⟨RX9, "askPut", "(III)I"⟩
abbrev cX9_askAdd : ByteArray := prog_1_method_24_code
def yX9_askAdd : MethodName := ⟨RX9, "askAdd", "(III)I"⟩
abbrev cX9_askSwap : ByteArray := prog_1_method_25_code
def yX9_askSwap : MethodName := ⟨RX9, "askSwap", "(IIII)I"⟩
abbrev cX9_hand : ByteArray := prog_1_method_26_code
def yX9_hand : MethodName := ⟨RX9, "hand", "(II)I"⟩
abbrev cX9_serialOf : ByteArray := prog_1_method_27_code
def yX9_serialOf : MethodName := ⟨RX9, "serialOf", "(I)I"⟩
abbrev cX9_isAnswered : ByteArray := prog_1_method_28_code
def yX9_isAnswered : MethodName := ⟨RX9, "isAnswered", "(I)Z"⟩
abbrev cX9_answerTo : ByteArray := prog_1_method_29_code
def yX9_answerTo : MethodName := ⟨RX9, "answerTo", "(I)I"⟩
abbrev cX9_round : ByteArray := prog_1_method_30_code
def yX9_round : MethodName := ⟨RX9, "round", "()I"⟩
abbrev cX9_lost : ByteArray := prog_1_method_31_code
def yX9_lost : MethodName := ⟨RX9, "lost", "()I"⟩
abbrev cX9_isUp : ByteArray := prog_1_method_32_code
def yX9_isUp : MethodName := ⟨RX9, "isUp", "(I)Z"⟩
abbrev cX9_roleOf : ByteArray := prog_1_method_33_code
def yX9_roleOf : MethodName := ⟨RX9, "roleOf", "(I)I"⟩
abbrev cX9_termOf : ByteArray := prog_1_method_34_code
def yX9_termOf : MethodName := ⟨RX9, "termOf", "(I)I"⟩
abbrev cX9_votedFor : ByteArray := prog_1_method_35_code
def yX9_votedFor : MethodName := ⟨RX9, "votedFor", "(I)I"⟩
abbrev cX9_follows : ByteArray := prog_1_method_36_code
def yX9_follows : MethodName := ⟨RX9, "follows", "(I)I"⟩
abbrev cX9_waitedOf : ByteArray := prog_1_method_37_code
def yX9_waitedOf : MethodName := ⟨RX9, "waitedOf", "(I)I"⟩
abbrev cX9_patienceOf : ByteArray := prog_1_method_38_code
def yX9_patienceOf : MethodName := ⟨RX9, "patienceOf", "(I)I"⟩
abbrev cX9_snapshotOf : ByteArray := prog_1_method_39_code
def yX9_snapshotOf : MethodName := ⟨RX9, "snapshotOf", "(I)I"⟩
abbrev cX9_lastOf : ByteArray := prog_1_method_40_code
def yX9_lastOf : MethodName := ⟨RX9, "lastOf", "(I)I"⟩
abbrev cX9_lastTermOf : ByteArray := prog_1_method_41_code
def yX9_lastTermOf : MethodName := ⟨RX9, "lastTermOf", "(I)I"⟩
abbrev cX9_committedOf : ByteArray := prog_1_method_42_code
def yX9_committedOf : MethodName := ⟨RX9, "committedOf", "(I)I"⟩
abbrev cX9_membersOf : ByteArray := prog_1_method_43_code
def yX9_membersOf : MethodName := ⟨RX9, "membersOf", "(I)I"⟩
abbrev cX9_sees : ByteArray := prog_1_method_44_code
def yX9_sees : MethodName := ⟨RX9, "sees", "(II)Z"⟩
abbrev cX9_termAt : ByteArray := prog_1_method_45_code
def yX9_termAt : MethodName := ⟨RX9, "termAt", "(II)I"⟩
abbrev cX9_kindAt : ByteArray := prog_1_method_46_code
def yX9_kindAt : MethodName := ⟨RX9, "kindAt", "(II)I"⟩
abbrev cX9_valueAt : ByteArray := prog_1_method_47_code
def yX9_valueAt : MethodName := ⟨RX9, "valueAt", "(II)I"⟩
abbrev cX9_clientAt : ByteArray := prog_1_method_48_code
def yX9_clientAt : MethodName := ⟨RX9, "clientAt", "(II)I"⟩
abbrev cX9_serialAt : ByteArray := prog_1_method_49_code
def yX9_serialAt : MethodName := ⟨RX9, "serialAt", "(II)I"⟩
abbrev cX9_valueOf : ByteArray := prog_1_method_50_code
def yX9_valueOf : MethodName := ⟨RX9, "valueOf", "(II)I"⟩
abbrev cX9_appliedSerial : ByteArray := prog_1_method_51_code
def yX9_appliedSerial : MethodName := ⟨RX9, "appliedSerial", "(II)I"⟩
abbrev cX9_nextOf : ByteArray := prog_1_method_52_code
def yX9_nextOf : MethodName := ⟨RX9, "nextOf", "(II)I"⟩
abbrev cX9_matchedOf : ByteArray := prog_1_method_53_code
def yX9_matchedOf : MethodName := ⟨RX9, "matchedOf", "(II)I"⟩
abbrev cX9_leader : ByteArray := prog_1_method_54_code
def yX9_leader : MethodName := ⟨RX9, "leader", "()I"⟩
abbrev cX9_leaders : ByteArray := prog_1_method_55_code
def yX9_leaders : MethodName := ⟨RX9, "leaders", "()I"⟩
abbrev cX9_committed : ByteArray := prog_1_method_56_code
def yX9_committed : MethodName := ⟨RX9, "committed", "()I"⟩
abbrev cX9_agreeUpTo : ByteArray := prog_1_method_57_code
def yX9_agreeUpTo : MethodName := ⟨RX9, "agreeUpTo", "(II)I"⟩
abbrev cX9_copiesOf : ByteArray := prog_1_method_58_code
def yX9_copiesOf : MethodName := ⟨RX9, "copiesOf", "(II)I"⟩
abbrev cX9_couldWin : ByteArray := prog_1_method_59_code
def yX9_couldWin : MethodName := ⟨RX9, "couldWin", "(I)Z"⟩
abbrev cX9_valuesOf : ByteArray := prog_1_method_60_code
def yX9_valuesOf : MethodName := ⟨RX9, "valuesOf", "(I)I"⟩
abbrev cX9_roundsToLeader : ByteArray := prog_1_method_61_code
def yX9_roundsToLeader : MethodName := ⟨RX9, "roundsToLeader", "()I"⟩
abbrev cX9_roundsToAnswer : ByteArray := prog_1_method_62_code
def yX9_roundsToAnswer : MethodName := ⟨RX9, "roundsToAnswer", "(I)I"⟩
abbrev cX9_roundsToAgree : ByteArray := prog_1_method_63_code
def yX9_roundsToAgree : MethodName := ⟨RX9, "roundsToAgree", "()I"⟩
abbrev cX9_roleIfSounding : ByteArray := prog_1_method_64_code
def yX9_roleIfSounding : MethodName := ⟨RX9, "roleIfSounding", "(I)I"⟩
abbrev cX9_roundsWithout : ByteArray := prog_1_method_65_code
def yX9_roundsWithout : MethodName := ⟨RX9, "roundsWithout", "(I)I"⟩
abbrev cX9_meanCommitted : ByteArray := prog_1_method_66_code
def yX9_meanCommitted : MethodName := ⟨RX9, "meanCommitted", "()D"⟩
abbrev cX9_digest : ByteArray := prog_1_method_67_code
def yX9_digest : MethodName := ⟨RX9, "digest", "()J"⟩
abbrev cX9_digestMessages : ByteArray := prog_1_method_68_code
def yX9_digestMessages : MethodName := ⟨RX9, "digestMessages", "(J)J"⟩
abbrev cX9_digestClients : ByteArray := prog_1_method_69_code
def yX9_digestClients : MethodName := ⟨RX9, "digestClients", "(J)J"⟩
abbrev cX9_digestServer : ByteArray := prog_1_method_70_code
def yX9_digestServer : MethodName := ⟨RX9, "digestServer", "(JLQuorumLog$Server;)J"⟩
abbrev cX9_digestLog : ByteArray := prog_1_method_71_code
def yX9_digestLog : MethodName := ⟨RX9, "digestLog", "(JLQuorumLog$Server;)J"⟩
abbrev cX9_digestTable : ByteArray := prog_1_method_72_code
def yX9_digestTable : MethodName := ⟨RX9, "digestTable", "(JLQuorumLog$Table;)J"⟩
abbrev cX9_digestOthers : ByteArray := prog_1_method_73_code
def yX9_digestOthers : MethodName := ⟨RX9, "digestOthers", "(JLQuorumLog$Server;)J"⟩
abbrev cX9_roundsUntil : ByteArray := prog_1_method_74_code
def yX9_roundsUntil : MethodName := ⟨RX9, "roundsUntil", "(II)I"⟩
abbrev cX9_refuseIf : ByteArray := prog_1_method_75_code
def yX9_refuseIf : MethodName := ⟨RX9, "refuseIf", "(Z)V"⟩
abbrev cX9_checkServer : ByteArray := prog_1_method_76_code
def yX9_checkServer : MethodName := ⟨RX9, "checkServer", "(I)V"⟩
abbrev cX9_checkPair : ByteArray := prog_1_method_77_code
def yX9_checkPair : MethodName := ⟨RX9, "checkPair", "(II)V"⟩
abbrev cX9_checkClient : ByteArray := prog_1_method_78_code
def yX9_checkClient : MethodName := ⟨RX9, "checkClient", "(I)V"⟩
abbrev cX9_checkKey : ByteArray := prog_1_method_79_code
def yX9_checkKey : MethodName := ⟨RX9, "checkKey", "(I)V"⟩
abbrev cX9_checkMessage : ByteArray := prog_1_method_80_code
def yX9_checkMessage : MethodName := ⟨RX9, "checkMessage", "(I)V"⟩
abbrev cX9_checkRequest : ByteArray := prog_1_method_81_code
def yX9_checkRequest : MethodName := ⟨RX9, "checkRequest", "(IIII)V"⟩
abbrev cX9_isTooGreat : ByteArray := prog_1_method_82_code
def yX9_isTooGreat : MethodName := ⟨RX9, "isTooGreat", "(I)Z"⟩
abbrev cX9_serverNumbered : ByteArray := prog_1_method_83_code
def yX9_serverNumbered : MethodName := ⟨RX9, "serverNumbered", "(I)LQuorumLog$Server;"⟩
abbrev cX9_messageAt : ByteArray := prog_1_method_84_code
def yX9_messageAt : MethodName := ⟨RX9, "messageAt", "(I)LQuorumLog$Message;"⟩
abbrev cX9_entryOf : ByteArray := prog_1_method_85_code
def yX9_entryOf : MethodName := ⟨RX9, "entryOf", "(II)LQuorumLog$Entry;"⟩
def RX10 : String := "QuorumLogModel$State"
def TX10 : u_T := fun k => match k with
  | 0 => ("QuorumLogModel$State", "round", "I", false)
  | 1 => ("QuorumLogModel$State", "lost", "I", false)
  | 2 => ("QuorumLogModel$State", "isUp", "[Z", true)
  | 3 => ("QuorumLogModel$State", "term", "[I", true)
  | 4 => ("QuorumLogModel$State", "voted", "[I", true)
  | 5 => ("QuorumLogModel$State", "role", "[I", true)
  | 6 => ("QuorumLogModel$State", "follows", "[I", true)
  | 7 => ("QuorumLogModel$State", "waited", "[I", true)
  | 8 => ("QuorumLogModel$State", "committed", "[I", true)
  | 9 => ("QuorumLogModel$State", "applied", "[I", true)
  | 10 => ("QuorumLogModel$State", "beats", "[I", true)
  | 11 => ("QuorumLogModel$State", "yes", "[I", true)
  | 12 => ("QuorumLogModel$State", "cuts", "[I", true)
  | 13 => ("QuorumLogModel$State", "snapIndex", "[I", true)
  | 14 => ("QuorumLogModel$State", "snapTerm", "[I", true)
  | 15 => ("QuorumLogModel$State", "snapMembers", "[I", true)
  | 16 => ("QuorumLogModel$State", "snapTable", "[[I", true)
  | 17 => ("QuorumLogModel$State", "table", "[[I", true)
  | 18 => ("QuorumLogModel$State", "size", "[I", true)
  | 19 => ("QuorumLogModel$State", "log", "[[I", true)
  | 20 => ("QuorumLogModel$State", "next", "[[I", true)
  | 21 => ("QuorumLogModel$State", "matched", "[[I", true)
  | 22 => ("QuorumLogModel$State", "many", "I", false)
  | 23 => ("QuorumLogModel$State", "post", "[I", true)
  | 24 => ("QuorumLogModel$State", "told", "[I", true)
  | 25 => ("QuorumLogModel$State", "request", "[I", true)
  | 26 => ("QuorumLogModel$State", "answered", "[I", true)
  | _ => ("QuorumLogModel$State", "answer", "[I", true)
def tyX10 : Nat → FieldType := fun k => match k with
  | 0 => .int
  | 1 => .int
  | 2 => .array .boolean
  | 3 => .array .int
  | 4 => .array .int
  | 5 => .array .int
  | 6 => .array .int
  | 7 => .array .int
  | 8 => .array .int
  | 9 => .array .int
  | 10 => .array .int
  | 11 => .array .int
  | 12 => .array .int
  | 13 => .array .int
  | 14 => .array .int
  | 15 => .array .int
  | 16 => .array (.array .int)
  | 17 => .array (.array .int)
  | 18 => .array .int
  | 19 => .array (.array .int)
  | 20 => .array (.array .int)
  | 21 => .array (.array .int)
  | 22 => .int
  | 23 => .array .int
  | 24 => .array .int
  | 25 => .array .int
  | 26 => .array .int
  | _ => .array .int
abbrev wsX100 : List Cond := u_ws RX10 TX10 28
theorem nmX10 : ∀ a, a < 28 → ∀ b, b < 28 → a ≠ b → (TX10 a).2.1 ≠ (TX10 b).2.1 := by decide +kernel
theorem tyX10_ok : ∀ k, k < 28 → parseFieldDescriptor (TX10 k).2.2.1 = some (tyX10 k) := by decide +kernel
abbrev cX10_init : ByteArray := prog_13_method_1_code
def yX10_init : MethodName := ⟨RX10, "<init>", "()V"⟩
abbrev cX10_copy : ByteArray := prog_13_method_2_code
def yX10_copy : MethodName := ⟨RX10, "copy", "([I[I)V"⟩
abbrev cX10_become : ByteArray := prog_13_method_3_code
def yX10_become : MethodName := ⟨RX10, "become", "(LQuorumLogModel$State;)V"⟩
abbrev cX10_begin : ByteArray := prog_13_method_4_code
def yX10_begin : MethodName := ⟨RX10, "begin", "(I)V"⟩
abbrev cX10_rest : ByteArray := prog_13_method_5_code
def yX10_rest : MethodName := ⟨RX10, "rest", "(I)V"⟩
abbrev cX10_makeRoom : ByteArray := prog_13_method_6_code
def yX10_makeRoom : MethodName := ⟨RX10, "makeRoom", "(II)V"⟩
abbrev cX10_append : ByteArray := prog_13_method_7_code
def yX10_append : MethodName := ⟨RX10, "append", "(I[III)V"⟩
abbrev cX10_appendPlain : ByteArray := prog_13_method_8_code
def yX10_appendPlain : MethodName := ⟨RX10, "appendPlain", "(III)V"⟩
abbrev cX10_last : ByteArray := prog_13_method_9_code
def yX10_last : MethodName := ⟨RX10, "last", "(I)I"⟩
abbrev cX10_hasEntry : ByteArray := prog_13_method_10_code
def yX10_hasEntry : MethodName := ⟨RX10, "hasEntry", "(II)Z"⟩
abbrev cX10_place : ByteArray := prog_13_method_11_code
def yX10_place : MethodName := ⟨RX10, "place", "(II)I"⟩
abbrev cX10_part : ByteArray := prog_13_method_12_code
def yX10_part : MethodName := ⟨RX10, "part", "(III)I"⟩
abbrev cX10_termOf : ByteArray := prog_13_method_13_code
def yX10_termOf : MethodName := ⟨RX10, "termOf", "(II)I"⟩
abbrev cX10_lastTerm : ByteArray := prog_13_method_14_code
def yX10_lastTerm : MethodName := ⟨RX10, "lastTerm", "(I)I"⟩
abbrev cX10_membersIndex : ByteArray := prog_13_method_15_code
def yX10_membersIndex : MethodName := ⟨RX10, "membersIndex", "(II)I"⟩
abbrev cX10_membersUpTo : ByteArray := prog_13_method_16_code
def yX10_membersUpTo : MethodName := ⟨RX10, "membersUpTo", "(II)I"⟩
abbrev cX10_members : ByteArray := prog_13_method_17_code
def yX10_members : MethodName := ⟨RX10, "members", "(I)I"⟩
abbrev cX10_sees : ByteArray := prog_13_method_18_code
def yX10_sees : MethodName := ⟨RX10, "sees", "(II)Z"⟩
abbrev cX10_count : ByteArray := prog_13_method_19_code
def yX10_count : MethodName := ⟨RX10, "count", "(I)I"⟩
abbrev cX10_isMost : ByteArray := prog_13_method_20_code
def yX10_isMost : MethodName := ⟨RX10, "isMost", "(II)Z"⟩
abbrev cX10_isAsGood : ByteArray := prog_13_method_21_code
def yX10_isAsGood : MethodName := ⟨RX10, "isAsGood", "(III)Z"⟩
abbrev cX10_send : ByteArray := prog_13_method_22_code
def yX10_send : MethodName := ⟨RX10, "send", "(IIIIII)I"⟩
abbrev cX10_sendLog : ByteArray := prog_13_method_23_code
def yX10_sendLog : MethodName := ⟨RX10, "sendLog", "(II)V"⟩
abbrev cX10_sendAll : ByteArray := prog_13_method_24_code
def yX10_sendAll : MethodName := ⟨RX10, "sendAll", "(I)I"⟩
abbrev cX10_ask : ByteArray := prog_13_method_25_code
def yX10_ask : MethodName := ⟨RX10, "ask", "(III)V"⟩
abbrev cX10_sound : ByteArray := prog_13_method_26_code
def yX10_sound : MethodName := ⟨RX10, "sound", "(I)V"⟩
abbrev cX10_stand : ByteArray := prog_13_method_27_code
def yX10_stand : MethodName := ⟨RX10, "stand", "(I)V"⟩
abbrev cX10_lead : ByteArray := prog_13_method_28_code
def yX10_lead : MethodName := ⟨RX10, "lead", "(I)V"⟩
abbrev cX10_look : ByteArray := prog_13_method_29_code
def yX10_look : MethodName := ⟨RX10, "look", "(I)V"⟩
abbrev cX10_apply : ByteArray := prog_13_method_30_code
def yX10_apply : MethodName := ⟨RX10, "apply", "(I)V"⟩
abbrev cX10_applyRequest : ByteArray := prog_13_method_31_code
def yX10_applyRequest : MethodName := ⟨RX10, "applyRequest", "(III)V"⟩
abbrev cX10_handle : ByteArray := prog_13_method_32_code
def yX10_handle : MethodName := ⟨RX10, "handle", "(I)Z"⟩
abbrev cX10_drop : ByteArray := prog_13_method_33_code
def yX10_drop : MethodName := ⟨RX10, "drop", "(I)V"⟩
abbrev cX10_arrive : ByteArray := prog_13_method_34_code
def yX10_arrive : MethodName := ⟨RX10, "arrive", "(IIIII)V"⟩
abbrev cX10_isOld : ByteArray := prog_13_method_35_code
def yX10_isOld : MethodName := ⟨RX10, "isOld", "(III)Z"⟩
abbrev cX10_takeEntries : ByteArray := prog_13_method_36_code
def yX10_takeEntries : MethodName := ⟨RX10, "takeEntries", "(IIIII)V"⟩
abbrev cX10_aheadOfRun : ByteArray := prog_13_method_37_code
def yX10_aheadOfRun : MethodName := ⟨RX10, "aheadOfRun", "(II)I"⟩
abbrev cX10_takeAnswer : ByteArray := prog_13_method_38_code
def yX10_takeAnswer : MethodName := ⟨RX10, "takeAnswer", "(IIIII)V"⟩
abbrev cX10_takeSnapshot : ByteArray := prog_13_method_39_code
def yX10_takeSnapshot : MethodName := ⟨RX10, "takeSnapshot", "(IIIII)V"⟩
abbrev cX10_cutAhead : ByteArray := prog_13_method_40_code
def yX10_cutAhead : MethodName := ⟨RX10, "cutAhead", "(II)V"⟩
abbrev cX10_patience : ByteArray := prog_13_method_41_code
def yX10_patience : MethodName := ⟨RX10, "patience", "(II)I"⟩
abbrev cX10_pass : ByteArray := prog_13_method_42_code
def yX10_pass : MethodName := ⟨RX10, "pass", "()V"⟩
abbrev cX10_takeTurn : ByteArray := prog_13_method_43_code
def yX10_takeTurn : MethodName := ⟨RX10, "takeTurn", "(I)V"⟩
abbrev cX10_leader : ByteArray := prog_13_method_44_code
def yX10_leader : MethodName := ⟨RX10, "leader", "()I"⟩
abbrev cX10_isFollowed : ByteArray := prog_13_method_45_code
def yX10_isFollowed : MethodName := ⟨RX10, "isFollowed", "(I)Z"⟩
abbrev cX10_hasFollowed : ByteArray := prog_13_method_46_code
def yX10_hasFollowed : MethodName := ⟨RX10, "hasFollowed", "()Z"⟩
abbrev cX10_doAgree : ByteArray := prog_13_method_47_code
def yX10_doAgree : MethodName := ⟨RX10, "doAgree", "()Z"⟩
abbrev cX10_canSound : ByteArray := prog_13_method_48_code
def yX10_canSound : MethodName := ⟨RX10, "canSound", "(I)Z"⟩
abbrev cX10_agreeUpTo : ByteArray := prog_13_method_49_code
def yX10_agreeUpTo : MethodName := ⟨RX10, "agreeUpTo", "(II)I"⟩
abbrev cX10_copies : ByteArray := prog_13_method_50_code
def yX10_copies : MethodName := ⟨RX10, "copies", "(II)I"⟩
abbrev cX10_couldWin : ByteArray := prog_13_method_51_code
def yX10_couldWin : MethodName := ⟨RX10, "couldWin", "(I)Z"⟩
abbrev cX10_furthest : ByteArray := prog_13_method_52_code
def yX10_furthest : MethodName := ⟨RX10, "furthest", "()I"⟩
def RX11 : String := "QuorumLogModel"
def TX11 : u_T := fun k => match k with
  | 0 => ("QuorumLogModel", "now", "LQuorumLogModel$State;", true)
  | 1 => ("QuorumLogModel", "ahead", "LQuorumLogModel$State;", true)
  | 2 => ("QuorumLogModel", "thrown", "I", false)
  | _ => ("QuorumLogModel", "sum", "J", false)
def tyX11 : Nat → FieldType := fun k => match k with
  | 0 => .object "QuorumLogModel$State"
  | 1 => .object "QuorumLogModel$State"
  | 2 => .int
  | _ => .long
abbrev wsX110 : List Cond := u_ws RX11 TX11 4
theorem nmX11 : ∀ a, a < 4 → ∀ b, b < 4 → a ≠ b → (TX11 a).2.1 ≠ (TX11 b).2.1 := by decide +kernel
theorem tyX11_ok : ∀ k, k < 4 → parseFieldDescriptor (TX11 k).2.2.1 = some (tyX11 k) := by decide +kernel
abbrev cX11_init : ByteArray := prog_12_method_1_code
def yX11_init : MethodName := ⟨RX11, "<init>", "()V"⟩
abbrev cX11_thrown : ByteArray := prog_12_method_2_code
def yX11_thrown : MethodName := ⟨RX11, "thrown", "()I"⟩
abbrev cX11_refuse : ByteArray := prog_12_method_3_code
def yX11_refuse : MethodName := ⟨RX11, "refuse", "(I)I"⟩
abbrev cX11_isServer : ByteArray := prog_12_method_4_code
def yX11_isServer : MethodName := ⟨RX11, "isServer", "(I)Z"⟩
abbrev cX11_isClient : ByteArray := prog_12_method_5_code
def yX11_isClient : MethodName := ⟨RX11, "isClient", "(I)Z"⟩
abbrev cX11_isKey : ByteArray := prog_12_method_6_code
def yX11_isKey : MethodName := ⟨RX11, "isKey", "(I)Z"⟩
abbrev cX11_isValue : ByteArray := prog_12_method_7_code
def yX11_isValue : MethodName := ⟨RX11, "isValue", "(I)Z"⟩
abbrev cX11_isMessage : ByteArray := prog_12_method_8_code
def yX11_isMessage : MethodName := ⟨RX11, "isMessage", "(I)Z"⟩
abbrev cX11_up : ByteArray := prog_12_method_9_code
def yX11_up : MethodName := ⟨RX11, "up", "()I"⟩
abbrev cX11_cutLinks : ByteArray := prog_12_method_10_code
def yX11_cutLinks : MethodName := ⟨RX11, "cutLinks", "()I"⟩
abbrev cX11_isLeader : ByteArray := prog_12_method_11_code
def yX11_isLeader : MethodName := ⟨RX11, "isLeader", "(I)Z"⟩
abbrev cX11_found : ByteArray := prog_12_method_12_code
def yX11_found : MethodName := ⟨RX11, "found", "(I)I"⟩
abbrev cX11_fail : ByteArray := prog_12_method_13_code
def yX11_fail : MethodName := ⟨RX11, "fail", "(I)I"⟩
abbrev cX11_recover : ByteArray := prog_12_method_14_code
def yX11_recover : MethodName := ⟨RX11, "recover", "(I)I"⟩
abbrev cX11_link : ByteArray := prog_12_method_15_code
def yX11_link : MethodName := ⟨RX11, "link", "(III)I"⟩
abbrev cX11_cut : ByteArray := prog_12_method_16_code
def yX11_cut : MethodName := ⟨RX11, "cut", "(II)I"⟩
abbrev cX11_mend : ByteArray := prog_12_method_17_code
def yX11_mend : MethodName := ⟨RX11, "mend", "(II)I"⟩
abbrev cX11_pass : ByteArray := prog_12_method_18_code
def yX11_pass : MethodName := ⟨RX11, "pass", "(I)I"⟩
abbrev cX11_sound : ByteArray := prog_12_method_19_code
def yX11_sound : MethodName := ⟨RX11, "sound", "(I)I"⟩
abbrev cX11_beat : ByteArray := prog_12_method_20_code
def yX11_beat : MethodName := ⟨RX11, "beat", "(I)I"⟩
abbrev cX11_shorten : ByteArray := prog_12_method_21_code
def yX11_shorten : MethodName := ⟨RX11, "shorten", "(I)I"⟩
abbrev cX11_handOver : ByteArray := prog_12_method_22_code
def yX11_handOver : MethodName := ⟨RX11, "handOver", "(II)I"⟩
abbrev cX11_canChange : ByteArray := prog_12_method_23_code
def yX11_canChange : MethodName := ⟨RX11, "canChange", "(I)Z"⟩
abbrev cX11_change : ByteArray := prog_12_method_24_code
def yX11_change : MethodName := ⟨RX11, "change", "(II)I"⟩
abbrev cX11_join : ByteArray := prog_12_method_25_code
def yX11_join : MethodName := ⟨RX11, "join", "(II)I"⟩
abbrev cX11_leave : ByteArray := prog_12_method_26_code
def yX11_leave : MethodName := ⟨RX11, "leave", "(II)I"⟩
abbrev cX11_messages : ByteArray := prog_12_method_27_code
def yX11_messages : MethodName := ⟨RX11, "messages", "()I"⟩
abbrev cX11_deliver : ByteArray := prog_12_method_28_code
def yX11_deliver : MethodName := ⟨RX11, "deliver", "(I)Z"⟩
abbrev cX11_lose : ByteArray := prog_12_method_29_code
def yX11_lose : MethodName := ⟨RX11, "lose", "(I)I"⟩
abbrev cX11_twice : ByteArray := prog_12_method_30_code
def yX11_twice : MethodName := ⟨RX11, "twice", "(I)I"⟩
abbrev cX11_ofMessage : ByteArray := prog_12_method_31_code
def yX11_ofMessage : MethodName := ⟨RX11, "ofMessage", "(II)I"⟩
abbrev cX11_kindOfMessage : ByteArray := prog_12_method_32_code
def yX11_kindOfMessage : MethodName := ⟨RX11, "kindOfMessage", "(I)I"⟩
abbrev cX11_senderOf : ByteArray := prog_12_method_33_code
def yX11_senderOf : MethodName := ⟨RX11, "senderOf", "(I)I"⟩
abbrev cX11_receiverOf : ByteArray := prog_12_method_34_code
def yX11_receiverOf : MethodName := ⟨RX11, "receiverOf", "(I)I"⟩
abbrev cX11_termOfMessage : ByteArray := prog_12_method_35_code
def yX11_termOfMessage : MethodName := ⟨RX11, "termOfMessage", "(I)I"⟩
abbrev cX11_tells : ByteArray := prog_12_method_36_code
def yX11_tells : MethodName := ⟨RX11, "tells", "(I)I"⟩
abbrev cX11_ask : ByteArray := prog_12_method_37_code
def yX11_ask : MethodName := ⟨RX11, "ask", "(IIIII)I"⟩
abbrev cX11_askPut : ByteArray := prog_12_method_38_code
def yX11_askPut : MethodName := ⟨RX11, "askPut", "(III)I"⟩
abbrev cX11_askAdd : ByteArray := prog_12_method_39_code
def yX11_askAdd : MethodName := ⟨RX11, "askAdd", "(III)I"⟩
abbrev cX11_askSwap : ByteArray := prog_12_method_40_code
def yX11_askSwap : MethodName := ⟨RX11, "askSwap", "(IIII)I"⟩
abbrev cX11_isOpen : ByteArray := prog_12_method_41_code
def yX11_isOpen : MethodName := ⟨RX11, "isOpen", "(I)Z"⟩
abbrev cX11_hand : ByteArray := prog_12_method_42_code
def yX11_hand : MethodName := ⟨RX11, "hand", "(II)I"⟩
abbrev cX11_serialOf : ByteArray := prog_12_method_43_code
def yX11_serialOf : MethodName := ⟨RX11, "serialOf", "(I)I"⟩
abbrev cX11_isAnswered : ByteArray := prog_12_method_44_code
def yX11_isAnswered : MethodName := ⟨RX11, "isAnswered", "(I)Z"⟩
abbrev cX11_answerTo : ByteArray := prog_12_method_45_code
def yX11_answerTo : MethodName := ⟨RX11, "answerTo", "(I)I"⟩
abbrev cX11_round : ByteArray := prog_12_method_46_code
def yX11_round : MethodName := ⟨RX11, "round", "()I"⟩
abbrev cX11_lost : ByteArray := prog_12_method_47_code
def yX11_lost : MethodName := ⟨RX11, "lost", "()I"⟩
abbrev cX11_of : ByteArray := prog_12_method_48_code
def yX11_of : MethodName := ⟨RX11, "of", "(I[I)I"⟩
abbrev cX11_isUp : ByteArray := prog_12_method_49_code
def yX11_isUp : MethodName := ⟨RX11, "isUp", "(I)Z"⟩
abbrev cX11_roleOf : ByteArray := prog_12_method_50_code
def yX11_roleOf : MethodName := ⟨RX11, "roleOf", "(I)I"⟩
abbrev cX11_termOf : ByteArray := prog_12_method_51_code
def yX11_termOf : MethodName := ⟨RX11, "termOf", "(I)I"⟩
abbrev cX11_votedFor : ByteArray := prog_12_method_52_code
def yX11_votedFor : MethodName := ⟨RX11, "votedFor", "(I)I"⟩
abbrev cX11_follows : ByteArray := prog_12_method_53_code
def yX11_follows : MethodName := ⟨RX11, "follows", "(I)I"⟩
abbrev cX11_waitedOf : ByteArray := prog_12_method_54_code
def yX11_waitedOf : MethodName := ⟨RX11, "waitedOf", "(I)I"⟩
abbrev cX11_patienceOf : ByteArray := prog_12_method_55_code
def yX11_patienceOf : MethodName := ⟨RX11, "patienceOf", "(I)I"⟩
abbrev cX11_snapshotOf : ByteArray := prog_12_method_56_code
def yX11_snapshotOf : MethodName := ⟨RX11, "snapshotOf", "(I)I"⟩
abbrev cX11_lastOf : ByteArray := prog_12_method_57_code
def yX11_lastOf : MethodName := ⟨RX11, "lastOf", "(I)I"⟩
abbrev cX11_lastTermOf : ByteArray := prog_12_method_58_code
def yX11_lastTermOf : MethodName := ⟨RX11, "lastTermOf", "(I)I"⟩
abbrev cX11_committedOf : ByteArray := prog_12_method_59_code
def yX11_committedOf : MethodName := ⟨RX11, "committedOf", "(I)I"⟩
abbrev cX11_membersOf : ByteArray := prog_12_method_60_code
def yX11_membersOf : MethodName := ⟨RX11, "membersOf", "(I)I"⟩
abbrev cX11_sees : ByteArray := prog_12_method_61_code
def yX11_sees : MethodName := ⟨RX11, "sees", "(II)Z"⟩
abbrev cX11_termAt : ByteArray := prog_12_method_62_code
def yX11_termAt : MethodName := ⟨RX11, "termAt", "(II)I"⟩
abbrev cX11_ofEntry : ByteArray := prog_12_method_63_code
def yX11_ofEntry : MethodName := ⟨RX11, "ofEntry", "(III)I"⟩
abbrev cX11_kindAt : ByteArray := prog_12_method_64_code
def yX11_kindAt : MethodName := ⟨RX11, "kindAt", "(II)I"⟩
abbrev cX11_valueAt : ByteArray := prog_12_method_65_code
def yX11_valueAt : MethodName := ⟨RX11, "valueAt", "(II)I"⟩
abbrev cX11_clientAt : ByteArray := prog_12_method_66_code
def yX11_clientAt : MethodName := ⟨RX11, "clientAt", "(II)I"⟩
abbrev cX11_serialAt : ByteArray := prog_12_method_67_code
def yX11_serialAt : MethodName := ⟨RX11, "serialAt", "(II)I"⟩
abbrev cX11_valueOf : ByteArray := prog_12_method_68_code
def yX11_valueOf : MethodName := ⟨RX11, "valueOf", "(II)I"⟩
abbrev cX11_appliedSerial : ByteArray := prog_12_method_69_code
def yX11_appliedSerial : MethodName := ⟨RX11, "appliedSerial", "(II)I"⟩
abbrev cX11_ofOther : ByteArray := prog_12_method_70_code
def yX11_ofOther : MethodName := ⟨RX11, "ofOther", "(II[[I)I"⟩
abbrev cX11_nextOf : ByteArray := prog_12_method_71_code
def yX11_nextOf : MethodName := ⟨RX11, "nextOf", "(II)I"⟩
abbrev cX11_matchedOf : ByteArray := prog_12_method_72_code
def yX11_matchedOf : MethodName := ⟨RX11, "matchedOf", "(II)I"⟩
abbrev cX11_leader : ByteArray := prog_12_method_73_code
def yX11_leader : MethodName := ⟨RX11, "leader", "()I"⟩
abbrev cX11_leadersNow : ByteArray := prog_12_method_74_code
def yX11_leadersNow : MethodName := ⟨RX11, "leadersNow", "()I"⟩
abbrev cX11_leaders : ByteArray := prog_12_method_75_code
def yX11_leaders : MethodName := ⟨RX11, "leaders", "()I"⟩
abbrev cX11_committed : ByteArray := prog_12_method_76_code
def yX11_committed : MethodName := ⟨RX11, "committed", "()I"⟩
abbrev cX11_agreeUpTo : ByteArray := prog_12_method_77_code
def yX11_agreeUpTo : MethodName := ⟨RX11, "agreeUpTo", "(II)I"⟩
abbrev cX11_copiesOf : ByteArray := prog_12_method_78_code
def yX11_copiesOf : MethodName := ⟨RX11, "copiesOf", "(II)I"⟩
abbrev cX11_couldWin : ByteArray := prog_12_method_79_code
def yX11_couldWin : MethodName := ⟨RX11, "couldWin", "(I)Z"⟩
abbrev cX11_valuesOf : ByteArray := prog_12_method_80_code
def yX11_valuesOf : MethodName := ⟨RX11, "valuesOf", "(I)I"⟩
abbrev cX11_hasCome : ByteArray := prog_12_method_81_code
def yX11_hasCome : MethodName := ⟨RX11, "hasCome", "(II)Z"⟩
abbrev cX11_roundsTill : ByteArray := prog_12_method_82_code
def yX11_roundsTill : MethodName := ⟨RX11, "roundsTill", "(II)I"⟩
abbrev cX11_roundsToLeader : ByteArray := prog_12_method_83_code
def yX11_roundsToLeader : MethodName := ⟨RX11, "roundsToLeader", "()I"⟩
abbrev cX11_roundsToAnswer : ByteArray := prog_12_method_84_code
def yX11_roundsToAnswer : MethodName := ⟨RX11, "roundsToAnswer", "(I)I"⟩
abbrev cX11_roundsToAgree : ByteArray := prog_12_method_85_code
def yX11_roundsToAgree : MethodName := ⟨RX11, "roundsToAgree", "()I"⟩
abbrev cX11_roleIfSounding : ByteArray := prog_12_method_86_code
def yX11_roleIfSounding : MethodName := ⟨RX11, "roleIfSounding", "(I)I"⟩
abbrev cX11_roundsWithout : ByteArray := prog_12_method_87_code
def yX11_roundsWithout : MethodName := ⟨RX11, "roundsWithout", "(I)I"⟩
abbrev cX11_meanCommitted : ByteArray := prog_12_method_88_code
def yX11_meanCommitted : MethodName := ⟨RX11, "meanCommitted", "()D"⟩
abbrev cX11_add : ByteArray := prog_12_method_89_code
def yX11_add : MethodName := ⟨RX11, "add", "(I)V"⟩
abbrev cX11_addServer : ByteArray := prog_12_method_90_code
def yX11_addServer : MethodName := ⟨RX11, "addServer", "(I)V"⟩
abbrev cX11_digest : ByteArray := prog_12_method_91_code
def yX11_digest : MethodName := ⟨RX11, "digest", "()J"⟩
def RJx145de : String := "java/io/Serializable"
def RJ6 : String := "java/lang/Integer"
abbrev cJ6_bitCount_0f7a4 : ByteArray := prog_18_method_49_code
def yJ6_bitCount_0f7a4 : MethodName := ⟨RJ6, "bitCount", "(I)I"⟩
def RJ9 : String := "java/lang/Math"
abbrev cJ9_max_7cf53 : ByteArray := prog_19_method_65_code
def yJ9_max_7cf53 : MethodName := ⟨RJ9, "max", "(II)I"⟩
abbrev cJ9_min_7cf53 : ByteArray := prog_19_method_69_code
def yJ9_min_7cf53 : MethodName := ⟨RJ9, "min", "(II)I"⟩
def RJ0 : String := "java/lang/String"
def RJ10 : String := "java/lang/System"
def RJ7 : String := "java/util/Arrays"
abbrev cJ7_fill_53178 : ByteArray := prog_24_method_103_code
def yJ7_fill_53178 : MethodName := ⟨RJ7, "fill", "([II)V"⟩
def RL : String := "QuorumLogLaw"
abbrev cL_found : ByteArray := method_3_code
def yL_found : MethodName := ⟨RL, "found", "(LQuorumLog;I[J)I"⟩
abbrev cL_fail : ByteArray := method_4_code
def yL_fail : MethodName := ⟨RL, "fail", "(LQuorumLog;I[J)I"⟩
abbrev cL_recover : ByteArray := method_5_code
def yL_recover : MethodName := ⟨RL, "recover", "(LQuorumLog;I[J)I"⟩
abbrev cL_cut : ByteArray := method_6_code
def yL_cut : MethodName := ⟨RL, "cut", "(LQuorumLog;II[J)I"⟩
abbrev cL_mend : ByteArray := method_7_code
def yL_mend : MethodName := ⟨RL, "mend", "(LQuorumLog;II[J)I"⟩
abbrev cL_pass : ByteArray := method_8_code
def yL_pass : MethodName := ⟨RL, "pass", "(LQuorumLog;I[J)I"⟩
abbrev cL_sound : ByteArray := method_9_code
def yL_sound : MethodName := ⟨RL, "sound", "(LQuorumLog;I[J)I"⟩
abbrev cL_beat : ByteArray := method_10_code
def yL_beat : MethodName := ⟨RL, "beat", "(LQuorumLog;I[J)I"⟩
abbrev cL_shorten : ByteArray := method_11_code
def yL_shorten : MethodName := ⟨RL, "shorten", "(LQuorumLog;I[J)I"⟩
abbrev cL_handOver : ByteArray := method_12_code
def yL_handOver : MethodName := ⟨RL, "handOver", "(LQuorumLog;II[J)I"⟩
abbrev cL_join : ByteArray := method_13_code
def yL_join : MethodName := ⟨RL, "join", "(LQuorumLog;II[J)I"⟩
abbrev cL_leave : ByteArray := method_14_code
def yL_leave : MethodName := ⟨RL, "leave", "(LQuorumLog;II[J)I"⟩
abbrev cL_deliver : ByteArray := method_15_code
def yL_deliver : MethodName := ⟨RL, "deliver", "(LQuorumLog;I[J)I"⟩
abbrev cL_lose : ByteArray := method_16_code
def yL_lose : MethodName := ⟨RL, "lose", "(LQuorumLog;I[J)I"⟩
abbrev cL_twice : ByteArray := method_17_code
def yL_twice : MethodName := ⟨RL, "twice", "(LQuorumLog;I[J)I"⟩
abbrev cL_kindOfMessage : ByteArray := method_18_code
def yL_kindOfMessage : MethodName := ⟨RL, "kindOfMessage", "(LQuorumLog;I[J)I"⟩
abbrev cL_senderOf : ByteArray := method_19_code
def yL_senderOf : MethodName := ⟨RL, "senderOf", "(LQuorumLog;I[J)I"⟩
abbrev cL_receiverOf : ByteArray := method_20_code
def yL_receiverOf : MethodName := ⟨RL, "receiverOf", "(LQuorumLog;I[J)I"⟩
abbrev cL_termOfMessage : ByteArray := method_21_code
def yL_termOfMessage : MethodName := ⟨RL, "termOfMessage", "(LQuorumLog;I[J)I"⟩
abbrev cL_tells : ByteArray := method_22_code
def yL_tells : MethodName := ⟨RL, "tells", "(LQuorumLog;I[J)I"⟩
abbrev cL_askPut : ByteArray := method_23_code
def yL_askPut : MethodName := ⟨RL, "askPut", "(LQuorumLog;III[J)I"⟩
abbrev cL_askAdd : ByteArray := method_24_code
def yL_askAdd : MethodName := ⟨RL, "askAdd", "(LQuorumLog;III[J)I"⟩
abbrev cL_askSwap : ByteArray := method_25_code
def yL_askSwap : MethodName := ⟨RL, "askSwap", "(LQuorumLog;IIII[J)I"⟩
abbrev cL_hand : ByteArray := method_26_code
def yL_hand : MethodName := ⟨RL, "hand", "(LQuorumLog;II[J)I"⟩
abbrev cL_serialOf : ByteArray := method_27_code
def yL_serialOf : MethodName := ⟨RL, "serialOf", "(LQuorumLog;I[J)I"⟩
abbrev cL_isAnswered : ByteArray := method_28_code
def yL_isAnswered : MethodName := ⟨RL, "isAnswered", "(LQuorumLog;I[J)I"⟩
abbrev cL_answerTo : ByteArray := method_29_code
def yL_answerTo : MethodName := ⟨RL, "answerTo", "(LQuorumLog;I[J)I"⟩
abbrev cL_isUp : ByteArray := method_30_code
def yL_isUp : MethodName := ⟨RL, "isUp", "(LQuorumLog;I[J)I"⟩
abbrev cL_roleOf : ByteArray := method_31_code
def yL_roleOf : MethodName := ⟨RL, "roleOf", "(LQuorumLog;I[J)I"⟩
abbrev cL_termOf : ByteArray := method_32_code
def yL_termOf : MethodName := ⟨RL, "termOf", "(LQuorumLog;I[J)I"⟩
abbrev cL_votedFor : ByteArray := method_33_code
def yL_votedFor : MethodName := ⟨RL, "votedFor", "(LQuorumLog;I[J)I"⟩
abbrev cL_follows : ByteArray := method_34_code
def yL_follows : MethodName := ⟨RL, "follows", "(LQuorumLog;I[J)I"⟩
abbrev cL_waitedOf : ByteArray := method_35_code
def yL_waitedOf : MethodName := ⟨RL, "waitedOf", "(LQuorumLog;I[J)I"⟩
abbrev cL_patienceOf : ByteArray := method_36_code
def yL_patienceOf : MethodName := ⟨RL, "patienceOf", "(LQuorumLog;I[J)I"⟩
abbrev cL_snapshotOf : ByteArray := method_37_code
def yL_snapshotOf : MethodName := ⟨RL, "snapshotOf", "(LQuorumLog;I[J)I"⟩
abbrev cL_lastOf : ByteArray := method_38_code
def yL_lastOf : MethodName := ⟨RL, "lastOf", "(LQuorumLog;I[J)I"⟩
abbrev cL_lastTermOf : ByteArray := method_39_code
def yL_lastTermOf : MethodName := ⟨RL, "lastTermOf", "(LQuorumLog;I[J)I"⟩
abbrev cL_committedOf : ByteArray := method_40_code
def yL_committedOf : MethodName := ⟨RL, "committedOf", "(LQuorumLog;I[J)I"⟩
abbrev cL_membersOf : ByteArray := method_41_code
def yL_membersOf : MethodName := ⟨RL, "membersOf", "(LQuorumLog;I[J)I"⟩
abbrev cL_sees : ByteArray := method_42_code
def yL_sees : MethodName := ⟨RL, "sees", "(LQuorumLog;II[J)I"⟩
abbrev cL_termAt : ByteArray := method_43_code
def yL_termAt : MethodName := ⟨RL, "termAt", "(LQuorumLog;II[J)I"⟩
abbrev cL_kindAt : ByteArray := method_44_code
def yL_kindAt : MethodName := ⟨RL, "kindAt", "(LQuorumLog;II[J)I"⟩
abbrev cL_valueAt : ByteArray := method_45_code
def yL_valueAt : MethodName := ⟨RL, "valueAt", "(LQuorumLog;II[J)I"⟩
abbrev cL_clientAt : ByteArray := method_46_code
def yL_clientAt : MethodName := ⟨RL, "clientAt", "(LQuorumLog;II[J)I"⟩
abbrev cL_serialAt : ByteArray := method_47_code
def yL_serialAt : MethodName := ⟨RL, "serialAt", "(LQuorumLog;II[J)I"⟩
abbrev cL_valueOf : ByteArray := method_48_code
def yL_valueOf : MethodName := ⟨RL, "valueOf", "(LQuorumLog;II[J)I"⟩
abbrev cL_appliedSerial : ByteArray := method_49_code
def yL_appliedSerial : MethodName := ⟨RL, "appliedSerial", "(LQuorumLog;II[J)I"⟩
abbrev cL_nextOf : ByteArray := method_50_code
def yL_nextOf : MethodName := ⟨RL, "nextOf", "(LQuorumLog;II[J)I"⟩
abbrev cL_matchedOf : ByteArray := method_51_code
def yL_matchedOf : MethodName := ⟨RL, "matchedOf", "(LQuorumLog;II[J)I"⟩
abbrev cL_agreeUpTo : ByteArray := method_52_code
def yL_agreeUpTo : MethodName := ⟨RL, "agreeUpTo", "(LQuorumLog;II[J)I"⟩
abbrev cL_copiesOf : ByteArray := method_53_code
def yL_copiesOf : MethodName := ⟨RL, "copiesOf", "(LQuorumLog;II[J)I"⟩
abbrev cL_couldWin : ByteArray := method_54_code
def yL_couldWin : MethodName := ⟨RL, "couldWin", "(LQuorumLog;I[J)I"⟩
abbrev cL_valuesOf : ByteArray := method_55_code
def yL_valuesOf : MethodName := ⟨RL, "valuesOf", "(LQuorumLog;I[J)I"⟩
abbrev cL_roundsToAnswer : ByteArray := method_56_code
def yL_roundsToAnswer : MethodName := ⟨RL, "roundsToAnswer", "(LQuorumLog;I[J)I"⟩
abbrev cL_roleIfSounding : ByteArray := method_57_code
def yL_roleIfSounding : MethodName := ⟨RL, "roleIfSounding", "(LQuorumLog;I[J)I"⟩
abbrev cL_roundsWithout : ByteArray := method_58_code
def yL_roundsWithout : MethodName := ⟨RL, "roundsWithout", "(LQuorumLog;I[J)I"⟩
abbrev cL_law : ByteArray := code
def yL_law : MethodName := ⟨RL, "law", "([I)Z"⟩
abbrev vwCl : List vw_C := [(RX0, TX0, 3), (RX1, TX1, 4), (RX2, TX2, 4), (RX3, TX3, 11), (RX4, TX4, 6), (RX5, TX5, 6), (RX6, TX6, 18), (RX7, TX7, 4), (RX8, TX8, 3), (RX9, TX9, 2), (RX10, TX10, 28), (RX11, TX11, 4)]
