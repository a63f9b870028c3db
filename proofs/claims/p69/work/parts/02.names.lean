-- ===== PART A: goes FIRST, ahead of the names: the tables' words, and 'selects' of the private methods out of them =====
/-- a private method of a class that the tables say can be made, by its rows of tables_1 -/
def lw_okq (q : MethodName × Nat) : Prop := (q.1.cls ≠ "java/lang/invoke/MethodHandle" ∧ q.1.cls ≠ "java/lang/invoke/VarHandle") ∧ Cond.instantiable q.1.cls q.2 ∈ tables_1 ∧ Cond.privateMethod q.1 ∈ tables_1 ∧ Cond.instanceMethod q.1 ∈ tables_1
theorem lw_p0 : lw_okq (⟨"QuorumLog$Server", "findMembers", "()V"⟩, 18) := ⟨⟨by decide +kernel, by decide +kernel⟩, List.mem_of_getElem? (i := 192) (by decide +kernel), List.mem_of_getElem? (i := 205) (by decide +kernel), List.mem_of_getElem? (i := 206) (by decide +kernel)⟩
theorem lw_p1 : lw_okq (⟨"QuorumLog$Server", "rest", "()V"⟩, 18) := ⟨⟨by decide +kernel, by decide +kernel⟩, List.mem_of_getElem? (i := 192) (by decide +kernel), List.mem_of_getElem? (i := 209) (by decide +kernel), List.mem_of_getElem? (i := 210) (by decide +kernel)⟩
theorem lw_p2 : lw_okq (⟨"java/lang/Throwable", "fillInStackTrace", "(I)Ljava/lang/Throwable;"⟩, 6) := ⟨⟨by decide +kernel, by decide +kernel⟩, List.mem_of_getElem? (i := 386) (by decide +kernel), List.mem_of_getElem? (i := 384) (by decide +kernel), List.mem_of_getElem? (i := 385) (by decide +kernel)⟩
theorem lw_p3 : lw_okq (⟨"QuorumLog$Cluster", "sendTo", "(LQuorumLog$Server;I)V"⟩, 4) := ⟨⟨by decide +kernel, by decide +kernel⟩, List.mem_of_getElem? (i := 30) (by decide +kernel), List.mem_of_getElem? (i := 449) (by decide +kernel), List.mem_of_getElem? (i := 450) (by decide +kernel)⟩
theorem lw_p4 : lw_okq (⟨"QuorumLog$Cluster", "sounding", "(LQuorumLog$Server;)I"⟩, 4) := ⟨⟨by decide +kernel, by decide +kernel⟩, List.mem_of_getElem? (i := 30) (by decide +kernel), List.mem_of_getElem? (i := 481) (by decide +kernel), List.mem_of_getElem? (i := 482) (by decide +kernel)⟩
theorem lw_p5 : lw_okq (⟨"QuorumLog$Cluster", "askOthers", "(LQuorumLog$Server;II)V"⟩, 4) := ⟨⟨by decide +kernel, by decide +kernel⟩, List.mem_of_getElem? (i := 30) (by decide +kernel), List.mem_of_getElem? (i := 499) (by decide +kernel), List.mem_of_getElem? (i := 500) (by decide +kernel)⟩
theorem lw_p6 : lw_okq (⟨"QuorumLog$Cluster", "standing", "(LQuorumLog$Server;)I"⟩, 4) := ⟨⟨by decide +kernel, by decide +kernel⟩, List.mem_of_getElem? (i := 30) (by decide +kernel), List.mem_of_getElem? (i := 507) (by decide +kernel), List.mem_of_getElem? (i := 508) (by decide +kernel)⟩
theorem lw_p7 : lw_okq (⟨"QuorumLog$Server", "widen", "()V"⟩, 18) := ⟨⟨by decide +kernel, by decide +kernel⟩, List.mem_of_getElem? (i := 192) (by decide +kernel), List.mem_of_getElem? (i := 545) (by decide +kernel), List.mem_of_getElem? (i := 546) (by decide +kernel)⟩
theorem lw_p8 : lw_okq (⟨"QuorumLog$Cluster", "commit", "(LQuorumLog$Server;I)V"⟩, 4) := ⟨⟨by decide +kernel, by decide +kernel⟩, List.mem_of_getElem? (i := 30) (by decide +kernel), List.mem_of_getElem? (i := 558) (by decide +kernel), List.mem_of_getElem? (i := 559) (by decide +kernel)⟩
theorem lw_p9 : lw_okq (⟨"QuorumLog$Cluster", "onSound", "(LQuorumLog$Server;LQuorumLog$Message;)V"⟩, 4) := ⟨⟨by decide +kernel, by decide +kernel⟩, List.mem_of_getElem? (i := 30) (by decide +kernel), List.mem_of_getElem? (i := 590) (by decide +kernel), List.mem_of_getElem? (i := 591) (by decide +kernel)⟩
theorem lw_p10 : lw_okq (⟨"QuorumLog$Cluster", "reply", "(ILQuorumLog$Message;IZI)V"⟩, 4) := ⟨⟨by decide +kernel, by decide +kernel⟩, List.mem_of_getElem? (i := 30) (by decide +kernel), List.mem_of_getElem? (i := 599) (by decide +kernel), List.mem_of_getElem? (i := 600) (by decide +kernel)⟩
theorem lw_p11 : lw_okq (⟨"QuorumLog$Cluster", "onYes", "(LQuorumLog$Server;LQuorumLog$Message;II)Z"⟩, 4) := ⟨⟨by decide +kernel, by decide +kernel⟩, List.mem_of_getElem? (i := 30) (by decide +kernel), List.mem_of_getElem? (i := 603) (by decide +kernel), List.mem_of_getElem? (i := 604) (by decide +kernel)⟩
theorem lw_p12 : lw_okq (⟨"QuorumLog$Cluster", "onCall", "(LQuorumLog$Server;LQuorumLog$Message;)V"⟩, 4) := ⟨⟨by decide +kernel, by decide +kernel⟩, List.mem_of_getElem? (i := 30) (by decide +kernel), List.mem_of_getElem? (i := 607) (by decide +kernel), List.mem_of_getElem? (i := 608) (by decide +kernel)⟩
theorem lw_p13 : lw_okq (⟨"QuorumLog$Cluster", "onEntries", "(LQuorumLog$Server;LQuorumLog$Message;)V"⟩, 4) := ⟨⟨by decide +kernel, by decide +kernel⟩, List.mem_of_getElem? (i := 30) (by decide +kernel), List.mem_of_getElem? (i := 611) (by decide +kernel), List.mem_of_getElem? (i := 612) (by decide +kernel)⟩
theorem lw_p14 : lw_okq (⟨"QuorumLog$Server", "hasEntry", "(II)Z"⟩, 18) := ⟨⟨by decide +kernel, by decide +kernel⟩, List.mem_of_getElem? (i := 192) (by decide +kernel), List.mem_of_getElem? (i := 623) (by decide +kernel), List.mem_of_getElem? (i := 624) (by decide +kernel)⟩
theorem lw_p15 : lw_okq (⟨"QuorumLog$Cluster", "onAnswer", "(LQuorumLog$Server;LQuorumLog$Message;)V"⟩, 4) := ⟨⟨by decide +kernel, by decide +kernel⟩, List.mem_of_getElem? (i := 30) (by decide +kernel), List.mem_of_getElem? (i := 643) (by decide +kernel), List.mem_of_getElem? (i := 644) (by decide +kernel)⟩
def lw_privs_1 : List (MethodName × Nat) := [(⟨"QuorumLog$Server", "findMembers", "()V"⟩, 18), (⟨"QuorumLog$Server", "rest", "()V"⟩, 18), (⟨"java/lang/Throwable", "fillInStackTrace", "(I)Ljava/lang/Throwable;"⟩, 6), (⟨"QuorumLog$Cluster", "sendTo", "(LQuorumLog$Server;I)V"⟩, 4), (⟨"QuorumLog$Cluster", "sounding", "(LQuorumLog$Server;)I"⟩, 4), (⟨"QuorumLog$Cluster", "askOthers", "(LQuorumLog$Server;II)V"⟩, 4), (⟨"QuorumLog$Cluster", "standing", "(LQuorumLog$Server;)I"⟩, 4), (⟨"QuorumLog$Server", "widen", "()V"⟩, 18), (⟨"QuorumLog$Cluster", "commit", "(LQuorumLog$Server;I)V"⟩, 4), (⟨"QuorumLog$Cluster", "onSound", "(LQuorumLog$Server;LQuorumLog$Message;)V"⟩, 4), (⟨"QuorumLog$Cluster", "reply", "(ILQuorumLog$Message;IZI)V"⟩, 4), (⟨"QuorumLog$Cluster", "onYes", "(LQuorumLog$Server;LQuorumLog$Message;II)Z"⟩, 4), (⟨"QuorumLog$Cluster", "onCall", "(LQuorumLog$Server;LQuorumLog$Message;)V"⟩, 4), (⟨"QuorumLog$Cluster", "onEntries", "(LQuorumLog$Server;LQuorumLog$Message;)V"⟩, 4), (⟨"QuorumLog$Server", "hasEntry", "(II)Z"⟩, 18), (⟨"QuorumLog$Cluster", "onAnswer", "(LQuorumLog$Server;LQuorumLog$Message;)V"⟩, 4)]
theorem lw_r1 : ∀ q ∈ lw_privs_1, lw_okq q := List.forall_mem_cons.mpr ⟨lw_p0, List.forall_mem_cons.mpr ⟨lw_p1, List.forall_mem_cons.mpr ⟨lw_p2, List.forall_mem_cons.mpr ⟨lw_p3, List.forall_mem_cons.mpr ⟨lw_p4, List.forall_mem_cons.mpr ⟨lw_p5, List.forall_mem_cons.mpr ⟨lw_p6, List.forall_mem_cons.mpr ⟨lw_p7, List.forall_mem_cons.mpr ⟨lw_p8, List.forall_mem_cons.mpr ⟨lw_p9, List.forall_mem_cons.mpr ⟨lw_p10, List.forall_mem_cons.mpr ⟨lw_p11, List.forall_mem_cons.mpr ⟨lw_p12, List.forall_mem_cons.mpr ⟨lw_p13, List.forall_mem_cons.mpr ⟨lw_p14, List.forall_mem_cons.mpr ⟨lw_p15, fun _ h => absurd h List.not_mem_nil⟩⟩⟩⟩⟩⟩⟩⟩⟩⟩⟩⟩⟩⟩⟩⟩
theorem lw_p16 : lw_okq (⟨"QuorumLog$Cluster", "onSnapshot", "(LQuorumLog$Server;LQuorumLog$Message;)V"⟩, 4) := ⟨⟨by decide +kernel, by decide +kernel⟩, List.mem_of_getElem? (i := 30) (by decide +kernel), List.mem_of_getElem? (i := 652) (by decide +kernel), List.mem_of_getElem? (i := 653) (by decide +kernel)⟩
theorem lw_p17 : lw_okq (⟨"QuorumLog$Server", "replaceSnapshot", "(LQuorumLog$Snapshot;I)V"⟩, 18) := ⟨⟨by decide +kernel, by decide +kernel⟩, List.mem_of_getElem? (i := 192) (by decide +kernel), List.mem_of_getElem? (i := 660) (by decide +kernel), List.mem_of_getElem? (i := 661) (by decide +kernel)⟩
theorem lw_p18 : lw_okq (⟨"QuorumLog$Cluster", "isHurried", "(LQuorumLog$Server;LQuorumLog$Message;)Z"⟩, 4) := ⟨⟨by decide +kernel, by decide +kernel⟩, List.mem_of_getElem? (i := 30) (by decide +kernel), List.mem_of_getElem? (i := 664) (by decide +kernel), List.mem_of_getElem? (i := 665) (by decide +kernel)⟩
theorem lw_p19 : lw_okq (⟨"QuorumLog", "serverNumbered", "(I)LQuorumLog$Server;"⟩, 2) := ⟨⟨by decide +kernel, by decide +kernel⟩, List.mem_of_getElem? (i := 22) (by decide +kernel), List.mem_of_getElem? (i := 672) (by decide +kernel), List.mem_of_getElem? (i := 673) (by decide +kernel)⟩
theorem lw_p20 : lw_okq (⟨"QuorumLog", "digestMessages", "(J)J"⟩, 2) := ⟨⟨by decide +kernel, by decide +kernel⟩, List.mem_of_getElem? (i := 22) (by decide +kernel), List.mem_of_getElem? (i := 742) (by decide +kernel), List.mem_of_getElem? (i := 743) (by decide +kernel)⟩
theorem lw_p21 : lw_okq (⟨"QuorumLog", "digestClients", "(J)J"⟩, 2) := ⟨⟨by decide +kernel, by decide +kernel⟩, List.mem_of_getElem? (i := 22) (by decide +kernel), List.mem_of_getElem? (i := 750) (by decide +kernel), List.mem_of_getElem? (i := 751) (by decide +kernel)⟩
theorem lw_p22 : lw_okq (⟨"QuorumLog", "digestServer", "(JLQuorumLog$Server;)J"⟩, 2) := ⟨⟨by decide +kernel, by decide +kernel⟩, List.mem_of_getElem? (i := 22) (by decide +kernel), List.mem_of_getElem? (i := 755) (by decide +kernel), List.mem_of_getElem? (i := 756) (by decide +kernel)⟩
theorem lw_p23 : lw_okq (⟨"QuorumLog", "digestLog", "(JLQuorumLog$Server;)J"⟩, 2) := ⟨⟨by decide +kernel, by decide +kernel⟩, List.mem_of_getElem? (i := 22) (by decide +kernel), List.mem_of_getElem? (i := 766) (by decide +kernel), List.mem_of_getElem? (i := 767) (by decide +kernel)⟩
theorem lw_p24 : lw_okq (⟨"QuorumLog", "digestOthers", "(JLQuorumLog$Server;)J"⟩, 2) := ⟨⟨by decide +kernel, by decide +kernel⟩, List.mem_of_getElem? (i := 22) (by decide +kernel), List.mem_of_getElem? (i := 790) (by decide +kernel), List.mem_of_getElem? (i := 791) (by decide +kernel)⟩
theorem lw_p25 : lw_okq (⟨"QuorumLog$Server", "membersBehind", "(I)I"⟩, 18) := ⟨⟨by decide +kernel, by decide +kernel⟩, List.mem_of_getElem? (i := 192) (by decide +kernel), List.mem_of_getElem? (i := 891) (by decide +kernel), List.mem_of_getElem? (i := 892) (by decide +kernel)⟩
theorem lw_p26 : lw_okq (⟨"QuorumLog", "checkRequest", "(IIII)V"⟩, 2) := ⟨⟨by decide +kernel, by decide +kernel⟩, List.mem_of_getElem? (i := 22) (by decide +kernel), List.mem_of_getElem? (i := 922) (by decide +kernel), List.mem_of_getElem? (i := 923) (by decide +kernel)⟩
theorem lw_p27 : lw_okq (⟨"QuorumLog", "checkMessage", "(I)V"⟩, 2) := ⟨⟨by decide +kernel, by decide +kernel⟩, List.mem_of_getElem? (i := 22) (by decide +kernel), List.mem_of_getElem? (i := 998) (by decide +kernel), List.mem_of_getElem? (i := 999) (by decide +kernel)⟩
theorem lw_p28 : lw_okq (⟨"QuorumLog", "entryOf", "(II)LQuorumLog$Entry;"⟩, 2) := ⟨⟨by decide +kernel, by decide +kernel⟩, List.mem_of_getElem? (i := 22) (by decide +kernel), List.mem_of_getElem? (i := 1095) (by decide +kernel), List.mem_of_getElem? (i := 1096) (by decide +kernel)⟩
def lw_privs_2 : List (MethodName × Nat) := [(⟨"QuorumLog$Cluster", "onSnapshot", "(LQuorumLog$Server;LQuorumLog$Message;)V"⟩, 4), (⟨"QuorumLog$Server", "replaceSnapshot", "(LQuorumLog$Snapshot;I)V"⟩, 18), (⟨"QuorumLog$Cluster", "isHurried", "(LQuorumLog$Server;LQuorumLog$Message;)Z"⟩, 4), (⟨"QuorumLog", "serverNumbered", "(I)LQuorumLog$Server;"⟩, 2), (⟨"QuorumLog", "digestMessages", "(J)J"⟩, 2), (⟨"QuorumLog", "digestClients", "(J)J"⟩, 2), (⟨"QuorumLog", "digestServer", "(JLQuorumLog$Server;)J"⟩, 2), (⟨"QuorumLog", "digestLog", "(JLQuorumLog$Server;)J"⟩, 2), (⟨"QuorumLog", "digestOthers", "(JLQuorumLog$Server;)J"⟩, 2), (⟨"QuorumLog$Server", "membersBehind", "(I)I"⟩, 18), (⟨"QuorumLog", "checkRequest", "(IIII)V"⟩, 2), (⟨"QuorumLog", "checkMessage", "(I)V"⟩, 2), (⟨"QuorumLog", "entryOf", "(II)LQuorumLog$Entry;"⟩, 2)]
theorem lw_r2 : ∀ q ∈ lw_privs_2, lw_okq q := List.forall_mem_cons.mpr ⟨lw_p16, List.forall_mem_cons.mpr ⟨lw_p17, List.forall_mem_cons.mpr ⟨lw_p18, List.forall_mem_cons.mpr ⟨lw_p19, List.forall_mem_cons.mpr ⟨lw_p20, List.forall_mem_cons.mpr ⟨lw_p21, List.forall_mem_cons.mpr ⟨lw_p22, List.forall_mem_cons.mpr ⟨lw_p23, List.forall_mem_cons.mpr ⟨lw_p24, List.forall_mem_cons.mpr ⟨lw_p25, List.forall_mem_cons.mpr ⟨lw_p26, List.forall_mem_cons.mpr ⟨lw_p27, List.forall_mem_cons.mpr ⟨lw_p28, fun _ h => absurd h List.not_mem_nil⟩⟩⟩⟩⟩⟩⟩⟩⟩⟩⟩⟩⟩
def lw_privs : List (MethodName × Nat) := lw_privs_1 ++ (lw_privs_2)
def lw_tbl : List Cond := k2_sels lw_privs ++ tables_1
theorem lw_privs_ok : ∀ q ∈ lw_privs, lw_okq q := by
  show ∀ q ∈ lw_privs_1 ++ (lw_privs_2), lw_okq q
  exact List.forall_mem_append.mpr ⟨lw_r1, lw_r2⟩
-- ===== end of PART A; then your names; then what follows =====
def RX0 : String := "QuorumLog$Client"
def TX0 : u_T := fun k => match k with
  | 0 => ("QuorumLog$Client", "request", "LQuorumLog$Request;", false)
  | 1 => ("QuorumLog$Client", "answered", "Z", false)
  | _ => ("QuorumLog$Client", "answer", "I", false)
def tyX0 : Nat → FieldType := fun k => match k with
  | 0 => .object "QuorumLog$Request"
  | 1 => .boolean
  | _ => .int
abbrev wsX00 : List Cond := u_ws RX0 TX0 3
theorem nmX0 : ∀ a, a < 3 → ∀ b, b < 3 → a ≠ b → (TX0 a).2.1 ≠ (TX0 b).2.1 := by decide +kernel
theorem tyX0_ok : ∀ k, k < 3 → parseFieldDescriptor (TX0 k).2.2.1 = some (tyX0 k) := by decide +kernel
abbrev cX0_init : ByteArray := prog_2_method_1_code
def yX0_init : MethodName := ⟨RX0, "<init>", "()V"⟩
abbrev cX0_forget : ByteArray := prog_2_method_2_code
def yX0_forget : MethodName := ⟨RX0, "forget", "()V"⟩
abbrev cX0_serial : ByteArray := prog_2_method_4_code
def yX0_serial : MethodName := ⟨RX0, "serial", "()I"⟩
abbrev cX0_waits : ByteArray := prog_2_method_5_code
def yX0_waits : MethodName := ⟨RX0, "waits", "()Z"⟩
abbrev cX0_ask : ByteArray := prog_2_method_6_code
def yX0_ask : MethodName := ⟨RX0, "ask", "(IIIII)I"⟩
def RX1 : String := "QuorumLog$Cluster"
def TX1 : u_T := fun k => match k with
  | 0 => ("QuorumLog$Cluster", "servers", "[LQuorumLog$Server;", true)
  | 1 => ("QuorumLog$Cluster", "clients", "[LQuorumLog$Client;", true)
  | 2 => ("QuorumLog$Cluster", "network", "LQuorumLog$Network;", true)
  | _ => ("QuorumLog$Cluster", "rounds", "I", false)
def tyX1 : Nat → FieldType := fun k => match k with
  | 0 => .array (.object "QuorumLog$Server")
  | 1 => .array (.object "QuorumLog$Client")
  | 2 => .object "QuorumLog$Network"
  | _ => .int
abbrev wsX10 : List Cond := u_ws RX1 TX1 4
theorem nmX1 : ∀ a, a < 4 → ∀ b, b < 4 → a ≠ b → (TX1 a).2.1 ≠ (TX1 b).2.1 := by decide +kernel
theorem tyX1_ok : ∀ k, k < 4 → parseFieldDescriptor (TX1 k).2.2.1 = some (tyX1 k) := by decide +kernel
abbrev cX1_init : ByteArray := prog_3_method_1_code
def yX1_init : MethodName := ⟨RX1, "<init>", "()V"⟩
abbrev cX1_firstSnapshot : ByteArray := prog_3_method_2_code
def yX1_firstSnapshot : MethodName := ⟨RX1, "firstSnapshot", "(I)LQuorumLog$Snapshot;"⟩
abbrev cX1_begin : ByteArray := prog_3_method_3_code
def yX1_begin : MethodName := ⟨RX1, "begin", "(I)V"⟩
abbrev cX1_countUp : ByteArray := prog_3_method_5_code
def yX1_countUp : MethodName := ⟨RX1, "countUp", "()I"⟩
abbrev cX1_countLeaders : ByteArray := prog_3_method_6_code
def yX1_countLeaders : MethodName := ⟨RX1, "countLeaders", "()I"⟩
abbrev cX1_newestLeader : ByteArray := prog_3_method_7_code
def yX1_newestLeader : MethodName := ⟨RX1, "newestLeader", "()LQuorumLog$Server;"⟩
abbrev cX1_countCopies : ByteArray := prog_3_method_8_code
def yX1_countCopies : MethodName := ⟨RX1, "countCopies", "(LQuorumLog$Server;II)I"⟩
abbrev cX1_isElectable : ByteArray := prog_3_method_9_code
def yX1_isElectable : MethodName := ⟨RX1, "isElectable", "(LQuorumLog$Server;)Z"⟩
abbrev cX1_playRound : ByteArray := prog_3_method_16_code
def yX1_playRound : MethodName := ⟨RX1, "playRound", "()V"⟩
abbrev cX1_rise : ByteArray := prog_3_method_17_code
def yX1_rise : MethodName := ⟨RX1, "rise", "(LQuorumLog$Server;I)V"⟩
abbrev cX1_sounding : ByteArray := prog_3_method_18_code
def yX1_sounding : MethodName := ⟨RX1, "sounding", "(LQuorumLog$Server;)I"⟩
abbrev cX1_standing : ByteArray := prog_3_method_19_code
def yX1_standing : MethodName := ⟨RX1, "standing", "(LQuorumLog$Server;)I"⟩
abbrev cX1_askOthers : ByteArray := prog_3_method_20_code
def yX1_askOthers : MethodName := ⟨RX1, "askOthers", "(LQuorumLog$Server;II)V"⟩
abbrev cX1_sendToOthers : ByteArray := prog_3_method_21_code
def yX1_sendToOthers : MethodName := ⟨RX1, "sendToOthers", "(LQuorumLog$Server;)I"⟩
abbrev cX1_sendTo : ByteArray := prog_3_method_22_code
def yX1_sendTo : MethodName := ⟨RX1, "sendTo", "(LQuorumLog$Server;I)V"⟩
abbrev cX1_lookCommitted : ByteArray := prog_3_method_23_code
def yX1_lookCommitted : MethodName := ⟨RX1, "lookCommitted", "(LQuorumLog$Server;)V"⟩
abbrev cX1_commit : ByteArray := prog_3_method_24_code
def yX1_commit : MethodName := ⟨RX1, "commit", "(LQuorumLog$Server;I)V"⟩
abbrev cX1_handle : ByteArray := prog_3_method_25_code
def yX1_handle : MethodName := ⟨RX1, "handle", "(I)Z"⟩
abbrev cX1_reply : ByteArray := prog_3_method_26_code
def yX1_reply : MethodName := ⟨RX1, "reply", "(ILQuorumLog$Message;IZI)V"⟩
abbrev cX1_onSound : ByteArray := prog_3_method_27_code
def yX1_onSound : MethodName := ⟨RX1, "onSound", "(LQuorumLog$Server;LQuorumLog$Message;)V"⟩
abbrev cX1_onCall : ByteArray := prog_3_method_28_code
def yX1_onCall : MethodName := ⟨RX1, "onCall", "(LQuorumLog$Server;LQuorumLog$Message;)V"⟩
abbrev cX1_onYes : ByteArray := prog_3_method_29_code
def yX1_onYes : MethodName := ⟨RX1, "onYes", "(LQuorumLog$Server;LQuorumLog$Message;II)Z"⟩
abbrev cX1_onEntries : ByteArray := prog_3_method_30_code
def yX1_onEntries : MethodName := ⟨RX1, "onEntries", "(LQuorumLog$Server;LQuorumLog$Message;)V"⟩
abbrev cX1_onSnapshot : ByteArray := prog_3_method_31_code
def yX1_onSnapshot : MethodName := ⟨RX1, "onSnapshot", "(LQuorumLog$Server;LQuorumLog$Message;)V"⟩
abbrev cX1_onAnswer : ByteArray := prog_3_method_32_code
def yX1_onAnswer : MethodName := ⟨RX1, "onAnswer", "(LQuorumLog$Server;LQuorumLog$Message;)V"⟩
abbrev cX1_isHurried : ByteArray := prog_3_method_33_code
def yX1_isHurried : MethodName := ⟨RX1, "isHurried", "(LQuorumLog$Server;LQuorumLog$Message;)Z"⟩
def RX2 : String := "QuorumLog$Entry"
def TX2 : u_T := fun k => match k with
  | 0 => ("QuorumLog$Entry", "term", "I", true)
  | 1 => ("QuorumLog$Entry", "kind", "I", true)
  | 2 => ("QuorumLog$Entry", "request", "LQuorumLog$Request;", true)
  | _ => ("QuorumLog$Entry", "members", "I", true)
def tyX2 : Nat → FieldType := fun k => match k with
  | 0 => .int
  | 1 => .int
  | 2 => .object "QuorumLog$Request"
  | _ => .int
abbrev wsX20 : List Cond := u_ws RX2 TX2 4
theorem nmX2 : ∀ a, a < 4 → ∀ b, b < 4 → a ≠ b → (TX2 a).2.1 ≠ (TX2 b).2.1 := by decide +kernel
theorem tyX2_ok : ∀ k, k < 4 → parseFieldDescriptor (TX2 k).2.2.1 = some (tyX2 k) := by decide +kernel
abbrev cX2_init : ByteArray := prog_4_method_1_code
def yX2_init : MethodName := ⟨RX2, "<init>", "(IILQuorumLog$Request;I)V"⟩
abbrev cX2_value : ByteArray := prog_4_method_2_code
def yX2_value : MethodName := ⟨RX2, "value", "()I"⟩
abbrev cX2_client : ByteArray := prog_4_method_3_code
def yX2_client : MethodName := ⟨RX2, "client", "()I"⟩
abbrev cX2_serial : ByteArray := prog_4_method_4_code
def yX2_serial : MethodName := ⟨RX2, "serial", "()I"⟩
def RX3 : String := "QuorumLog$Message"
def TX3 : u_T := fun k => match k with
  | 0 => ("QuorumLog$Message", "entries", "[LQuorumLog$Entry;", true)
  | 1 => ("QuorumLog$Message", "kind", "I", false)
  | 2 => ("QuorumLog$Message", "sender", "I", false)
  | 3 => ("QuorumLog$Message", "receiver", "I", false)
  | 4 => ("QuorumLog$Message", "term", "I", false)
  | 5 => ("QuorumLog$Message", "yes", "Z", false)
  | 6 => ("QuorumLog$Message", "index", "I", false)
  | 7 => ("QuorumLog$Message", "logTerm", "I", false)
  | 8 => ("QuorumLog$Message", "committed", "I", false)
  | 9 => ("QuorumLog$Message", "count", "I", false)
  | _ => ("QuorumLog$Message", "snapshot", "LQuorumLog$Snapshot;", false)
def tyX3 : Nat → FieldType := fun k => match k with
  | 0 => .array (.object "QuorumLog$Entry")
  | 1 => .int
  | 2 => .int
  | 3 => .int
  | 4 => .int
  | 5 => .boolean
  | 6 => .int
  | 7 => .int
  | 8 => .int
  | 9 => .int
  | _ => .object "QuorumLog$Snapshot"
abbrev wsX30 : List Cond := u_ws RX3 TX3 11
theorem nmX3 : ∀ a, a < 11 → ∀ b, b < 11 → a ≠ b → (TX3 a).2.1 ≠ (TX3 b).2.1 := by decide +kernel
theorem tyX3_ok : ∀ k, k < 11 → parseFieldDescriptor (TX3 k).2.2.1 = some (tyX3 k) := by decide +kernel
abbrev cX3_init : ByteArray := prog_5_method_1_code
def yX3_init : MethodName := ⟨RX3, "<init>", "()V"⟩
abbrev cX3_copyFrom : ByteArray := prog_5_method_2_code
def yX3_copyFrom : MethodName := ⟨RX3, "copyFrom", "(LQuorumLog$Message;)V"⟩
abbrev cX3_told : ByteArray := prog_5_method_3_code
def yX3_told : MethodName := ⟨RX3, "told", "()I"⟩
abbrev cX3_bearsItsTerm : ByteArray := prog_5_method_4_code
def yX3_bearsItsTerm : MethodName := ⟨RX3, "bearsItsTerm", "()Z"⟩
def RX4 : String := "QuorumLog$Network"
def TX4 : u_T := fun k => match k with
  | 0 => ("QuorumLog$Network", "row", "[LQuorumLog$Message;", true)
  | 1 => ("QuorumLog$Network", "cuts", "[I", true)
  | 2 => ("QuorumLog$Network", "inHand", "LQuorumLog$Message;", false)
  | 3 => ("QuorumLog$Network", "count", "I", false)
  | 4 => ("QuorumLog$Network", "cutLinks", "I", false)
  | _ => ("QuorumLog$Network", "losses", "I", false)
def tyX4 : Nat → FieldType := fun k => match k with
  | 0 => .array (.object "QuorumLog$Message")
  | 1 => .array .int
  | 2 => .object "QuorumLog$Message"
  | 3 => .int
  | 4 => .int
  | _ => .int
abbrev wsX40 : List Cond := u_ws RX4 TX4 6
theorem nmX4 : ∀ a, a < 6 → ∀ b, b < 6 → a ≠ b → (TX4 a).2.1 ≠ (TX4 b).2.1 := by decide +kernel
theorem tyX4_ok : ∀ k, k < 6 → parseFieldDescriptor (TX4 k).2.2.1 = some (tyX4 k) := by decide +kernel
abbrev cX4_init : ByteArray := prog_6_method_1_code
def yX4_init : MethodName := ⟨RX4, "<init>", "()V"⟩
abbrev cX4_clear : ByteArray := prog_6_method_2_code
def yX4_clear : MethodName := ⟨RX4, "clear", "()V"⟩
abbrev cX4_isCut : ByteArray := prog_6_method_4_code
def yX4_isCut : MethodName := ⟨RX4, "isCut", "(II)Z"⟩
abbrev cX4_turn : ByteArray := prog_6_method_5_code
def yX4_turn : MethodName := ⟨RX4, "turn", "(II)I"⟩
abbrev cX4_place : ByteArray := prog_6_method_6_code
def yX4_place : MethodName := ⟨RX4, "place", "(IIII)LQuorumLog$Message;"⟩
abbrev cX4_repeat : ByteArray := prog_6_method_7_code
def yX4_repeat : MethodName := ⟨RX4, "repeat", "(I)I"⟩
abbrev cX4_takeOut : ByteArray := prog_6_method_8_code
def yX4_takeOut : MethodName := ⟨RX4, "takeOut", "(I)LQuorumLog$Message;"⟩
def RX5 : String := "QuorumLog$Request"
def TX5 : u_T := fun k => match k with
  | 0 => ("QuorumLog$Request", "client", "I", true)
  | 1 => ("QuorumLog$Request", "serial", "I", true)
  | 2 => ("QuorumLog$Request", "kind", "I", true)
  | 3 => ("QuorumLog$Request", "key", "I", true)
  | 4 => ("QuorumLog$Request", "expected", "I", true)
  | _ => ("QuorumLog$Request", "value", "I", true)
def tyX5 : Nat → FieldType := fun k => match k with
  | 0 => .int
  | 1 => .int
  | 2 => .int
  | 3 => .int
  | 4 => .int
  | _ => .int
abbrev wsX50 : List Cond := u_ws RX5 TX5 6
theorem nmX5 : ∀ a, a < 6 → ∀ b, b < 6 → a ≠ b → (TX5 a).2.1 ≠ (TX5 b).2.1 := by decide +kernel
theorem tyX5_ok : ∀ k, k < 6 → parseFieldDescriptor (TX5 k).2.2.1 = some (tyX5 k) := by decide +kernel
abbrev cX5_init : ByteArray := prog_7_method_1_code
def yX5_init : MethodName := ⟨RX5, "<init>", "(IIIIII)V"⟩
def RX6 : String := "QuorumLog$Server"
def TX6 : u_T := fun k => match k with
  | 0 => ("QuorumLog$Server", "number", "I", true)
  | 1 => ("QuorumLog$Server", "table", "LQuorumLog$Table;", true)
  | 2 => ("QuorumLog$Server", "next", "[I", true)
  | 3 => ("QuorumLog$Server", "matched", "[I", true)
  | 4 => ("QuorumLog$Server", "up", "Z", false)
  | 5 => ("QuorumLog$Server", "term", "I", false)
  | 6 => ("QuorumLog$Server", "vote", "I", false)
  | 7 => ("QuorumLog$Server", "log", "[LQuorumLog$Entry;", false)
  | 8 => ("QuorumLog$Server", "count", "I", false)
  | 9 => ("QuorumLog$Server", "snapshot", "LQuorumLog$Snapshot;", false)
  | 10 => ("QuorumLog$Server", "members", "I", false)
  | 11 => ("QuorumLog$Server", "membersIndex", "I", false)
  | 12 => ("QuorumLog$Server", "role", "I", false)
  | 13 => ("QuorumLog$Server", "followed", "I", false)
  | 14 => ("QuorumLog$Server", "waited", "I", false)
  | 15 => ("QuorumLog$Server", "committed", "I", false)
  | 16 => ("QuorumLog$Server", "yeses", "I", false)
  | _ => ("QuorumLog$Server", "beatSteps", "I", false)
def tyX6 : Nat → FieldType := fun k => match k with
  | 0 => .int
  | 1 => .object "QuorumLog$Table"
  | 2 => .array .int
  | 3 => .array .int
  | 4 => .boolean
  | 5 => .int
  | 6 => .int
  | 7 => .array (.object "QuorumLog$Entry")
  | 8 => .int
  | 9 => .object "QuorumLog$Snapshot"
  | 10 => .int
  | 11 => .int
  | 12 => .int
  | 13 => .int
  | 14 => .int
  | 15 => .int
  | 16 => .int
  | _ => .int
abbrev wsX60 : List Cond := u_ws RX6 TX6 18
theorem nmX6 : ∀ a, a < 18 → ∀ b, b < 18 → a ≠ b → (TX6 a).2.1 ≠ (TX6 b).2.1 := by decide +kernel
theorem tyX6_ok : ∀ k, k < 18 → parseFieldDescriptor (TX6 k).2.2.1 = some (tyX6 k) := by decide +kernel
abbrev cX6_init : ByteArray := prog_8_method_1_code
def yX6_init : MethodName := ⟨RX6, "<init>", "(ILQuorumLog$Snapshot;)V"⟩
abbrev cX6_reset : ByteArray := prog_8_method_2_code
def yX6_reset : MethodName := ⟨RX6, "reset", "(LQuorumLog$Snapshot;)V"⟩
abbrev cX6_rest : ByteArray := prog_8_method_3_code
def yX6_rest : MethodName := ⟨RX6, "rest", "()V"⟩
abbrev cX6_goDown : ByteArray := prog_8_method_4_code
def yX6_goDown : MethodName := ⟨RX6, "goDown", "()V"⟩
abbrev cX6_patience : ByteArray := prog_8_method_6_code
def yX6_patience : MethodName := ⟨RX6, "patience", "()I"⟩
abbrev cX6_lastIndex : ByteArray := prog_8_method_7_code
def yX6_lastIndex : MethodName := ⟨RX6, "lastIndex", "()I"⟩
abbrev cX6_lastTerm : ByteArray := prog_8_method_8_code
def yX6_lastTerm : MethodName := ⟨RX6, "lastTerm", "()I"⟩
abbrev cX6_entryAt : ByteArray := prog_8_method_9_code
def yX6_entryAt : MethodName := ⟨RX6, "entryAt", "(I)LQuorumLog$Entry;"⟩
abbrev cX6_termOfIndex : ByteArray := prog_8_method_10_code
def yX6_termOfIndex : MethodName := ⟨RX6, "termOfIndex", "(I)I"⟩
abbrev cX6_seesMember : ByteArray := prog_8_method_11_code
def yX6_seesMember : MethodName := ⟨RX6, "seesMember", "(I)Z"⟩
abbrev cX6_isMember : ByteArray := prog_8_method_12_code
def yX6_isMember : MethodName := ⟨RX6, "isMember", "()Z"⟩
abbrev cX6_hasMostYeses : ByteArray := prog_8_method_13_code
def yX6_hasMostYeses : MethodName := ⟨RX6, "hasMostYeses", "()Z"⟩
abbrev cX6_mostHave : ByteArray := prog_8_method_14_code
def yX6_mostHave : MethodName := ⟨RX6, "mostHave", "(I)Z"⟩
abbrev cX6_maySound : ByteArray := prog_8_method_15_code
def yX6_maySound : MethodName := ⟨RX6, "maySound", "()Z"⟩
abbrev cX6_mayChangeMembers : ByteArray := prog_8_method_16_code
def yX6_mayChangeMembers : MethodName := ⟨RX6, "mayChangeMembers", "()Z"⟩
abbrev cX6_isReachedBy : ByteArray := prog_8_method_17_code
def yX6_isReachedBy : MethodName := ⟨RX6, "isReachedBy", "(II)Z"⟩
abbrev cX6_agreement : ByteArray := prog_8_method_18_code
def yX6_agreement : MethodName := ⟨RX6, "agreement", "(LQuorumLog$Server;)I"⟩
abbrev cX6_append : ByteArray := prog_8_method_19_code
def yX6_append : MethodName := ⟨RX6, "append", "(LQuorumLog$Entry;)V"⟩
abbrev cX6_widen : ByteArray := prog_8_method_20_code
def yX6_widen : MethodName := ⟨RX6, "widen", "()V"⟩
abbrev cX6_findMembers : ByteArray := prog_8_method_21_code
def yX6_findMembers : MethodName := ⟨RX6, "findMembers", "()V"⟩
abbrev cX6_membersBehind : ByteArray := prog_8_method_22_code
def yX6_membersBehind : MethodName := ⟨RX6, "membersBehind", "(I)I"⟩
abbrev cX6_makeSnapshot : ByteArray := prog_8_method_23_code
def yX6_makeSnapshot : MethodName := ⟨RX6, "makeSnapshot", "()I"⟩
abbrev cX6_install : ByteArray := prog_8_method_24_code
def yX6_install : MethodName := ⟨RX6, "install", "(LQuorumLog$Snapshot;)V"⟩
abbrev cX6_replaceSnapshot : ByteArray := prog_8_method_25_code
def yX6_replaceSnapshot : MethodName := ⟨RX6, "replaceSnapshot", "(LQuorumLog$Snapshot;I)V"⟩
abbrev cX6_hasEntry : ByteArray := prog_8_method_26_code
def yX6_hasEntry : MethodName := ⟨RX6, "hasEntry", "(II)Z"⟩
abbrev cX6_hasPrevious : ByteArray := prog_8_method_27_code
def yX6_hasPrevious : MethodName := ⟨RX6, "hasPrevious", "(II)Z"⟩
abbrev cX6_indexToTryNext : ByteArray := prog_8_method_28_code
def yX6_indexToTryNext : MethodName := ⟨RX6, "indexToTryNext", "(I)I"⟩
abbrev cX6_accept : ByteArray := prog_8_method_29_code
def yX6_accept : MethodName := ⟨RX6, "accept", "(ILQuorumLog$Entry;)V"⟩
abbrev cX6_enterTerm : ByteArray := prog_8_method_30_code
def yX6_enterTerm : MethodName := ⟨RX6, "enterTerm", "(I)V"⟩
abbrev cX6_obey : ByteArray := prog_8_method_31_code
def yX6_obey : MethodName := ⟨RX6, "obey", "(I)V"⟩
abbrev cX6_startAs : ByteArray := prog_8_method_32_code
def yX6_startAs : MethodName := ⟨RX6, "startAs", "(I)V"⟩
abbrev cX6_startLeading : ByteArray := prog_8_method_33_code
def yX6_startLeading : MethodName := ⟨RX6, "startLeading", "()V"⟩
abbrev cX6_learnMatched : ByteArray := prog_8_method_34_code
def yX6_learnMatched : MethodName := ⟨RX6, "learnMatched", "(II)V"⟩
def RX7 : String := "QuorumLog$Snapshot"
def TX7 : u_T := fun k => match k with
  | 0 => ("QuorumLog$Snapshot", "index", "I", true)
  | 1 => ("QuorumLog$Snapshot", "term", "I", true)
  | 2 => ("QuorumLog$Snapshot", "members", "I", true)
  | _ => ("QuorumLog$Snapshot", "table", "LQuorumLog$Table;", true)
def tyX7 : Nat → FieldType := fun k => match k with
  | 0 => .int
  | 1 => .int
  | 2 => .int
  | _ => .object "QuorumLog$Table"
abbrev wsX70 : List Cond := u_ws RX7 TX7 4
theorem nmX7 : ∀ a, a < 4 → ∀ b, b < 4 → a ≠ b → (TX7 a).2.1 ≠ (TX7 b).2.1 := by decide +kernel
theorem tyX7_ok : ∀ k, k < 4 → parseFieldDescriptor (TX7 k).2.2.1 = some (tyX7 k) := by decide +kernel
abbrev cX7_init : ByteArray := prog_9_method_1_code
def yX7_init : MethodName := ⟨RX7, "<init>", "(IIILQuorumLog$Table;)V"⟩
def RX8 : String := "QuorumLog$Table"
def TX8 : u_T := fun k => match k with
  | 0 => ("QuorumLog$Table", "values", "[I", true)
  | 1 => ("QuorumLog$Table", "serials", "[I", true)
  | _ => ("QuorumLog$Table", "given", "[I", true)
def tyX8 : Nat → FieldType := fun k => match k with
  | 0 => .array .int
  | 1 => .array .int
  | _ => .array .int
abbrev wsX80 : List Cond := u_ws RX8 TX8 3
theorem nmX8 : ∀ a, a < 3 → ∀ b, b < 3 → a ≠ b → (TX8 a).2.1 ≠ (TX8 b).2.1 := by decide +kernel
theorem tyX8_ok : ∀ k, k < 3 → parseFieldDescriptor (TX8 k).2.2.1 = some (tyX8 k) := by decide +kernel
abbrev cX8_init : ByteArray := prog_10_method_1_code
def yX8_init : MethodName := ⟨RX8, "<init>", "()V"⟩
abbrev cX8_copyFrom : ByteArray := prog_10_method_2_code
def yX8_copyFrom : MethodName := ⟨RX8, "copyFrom", "(LQuorumLog$Table;)V"⟩
abbrev cX8_apply : ByteArray := prog_10_method_3_code
def yX8_apply : MethodName := ⟨RX8, "apply", "(LQuorumLog$Request;)V"⟩
def RX9 : String := "QuorumLog"
def TX9 : u_T := fun k => match k with
  | 0 => ("QuorumLog", "now", "LQuorumLog$Cluster;", true)
  | _ => ("QuorumLog", "guess", "LQuorumLog$Cluster;", true)
def tyX9 : Nat → FieldType := fun k => match k with
  | 0 => .object "QuorumLog$Cluster"
  | _ => .object "QuorumLog$Cluster"
abbrev wsX90 : List Cond := u_ws RX9 TX9 2
theorem nmX9 : ∀ a, a < 2 → ∀ b, b < 2 → a ≠ b → (TX9 a).2.1 ≠ (TX9 b).2.1 := by decide +kernel
theorem tyX9_ok : ∀ k, k < 2 → parseFieldDescriptor (TX9 k).2.2.1 = some (tyX9 k) := by decide +kernel
abbrev cX9_init : ByteArray := prog_1_method_1_code
def yX9_init : MethodName := ⟨RX9, "<init>", "()V"⟩
abbrev cX9_found : ByteArray := prog_1_method_2_code
def yX9_found : MethodName := ⟨RX9, "found", "(I)I"⟩
abbrev cX9_fail : ByteArray := prog_1_method_3_code
def yX9_fail : MethodName := ⟨RX9, "fail", "(I)I"⟩
abbrev cX9_recover : ByteArray := prog_1_method_4_code
def yX9_recover : MethodName := ⟨RX9, "recover", "(I)I"⟩
abbrev cX9_cut : ByteArray := prog_1_method_5_code
def yX9_cut : MethodName := ⟨RX9, "cut", "(II)I"⟩
abbrev cX9_mend : ByteArray := prog_1_method_6_code
def yX9_mend : MethodName := ⟨RX9, "mend", "(II)I"⟩
abbrev cX9_pass : ByteArray := prog_1_method_7_code
def yX9_pass : MethodName := ⟨RX9, "pass", "(I)I"⟩
abbrev cX9_sound : ByteArray := prog_1_method_8_code
def yX9_sound : MethodName := ⟨RX9, "sound", "(I)I"⟩
abbrev cX9_beat : ByteArray := prog_1_method_9_code
def yX9_beat : MethodName := ⟨RX9, "beat", "(I)I"⟩
abbrev cX9_shorten : ByteArray := prog_1_method_10_code
def yX9_shorten : MethodName := ⟨RX9, "shorten", "(I)I"⟩
abbrev cX9_handOver : ByteArray := prog_1_method_11_code
def yX9_handOver : MethodName := ⟨RX9, "handOver", "(II)I"⟩
abbrev cX9_join : ByteArray := prog_1_method_12_code
def yX9_join : MethodName := ⟨RX9, "join", "(II)I"⟩
abbrev cX9_leave : ByteArray := prog_1_method_13_code
def yX9_leave : MethodName := ⟨RX9, "leave", "(II)I"⟩
abbrev cX9_messages : ByteArray := prog_1_method_14_code
def yX9_messages : MethodName := ⟨RX9, "messages", "()I"⟩
abbrev cX9_deliver : ByteArray := prog_1_method_15_code
def yX9_deliver : MethodName := ⟨RX9, "deliver", "(I)Z"⟩
abbrev cX9_lose : ByteArray := prog_1_method_16_code
def yX9_lose : MethodName := ⟨RX9, "lose", "(I)I"⟩
abbrev cX9_twice : ByteArray := prog_1_method_17_code
def yX9_twice : MethodName := ⟨RX9, "twice", "(I)I"⟩
abbrev cX9_askPut : ByteArray := prog_1_method_23_code
def yX9_askPut : MethodName := ⟨RX9, "askPut", "(III)I"⟩
abbrev cX9_askAdd : ByteArray := prog_1_method_24_code
def yX9_askAdd : MethodName := ⟨RX9, "askAdd", "(III)I"⟩
abbrev cX9_hand : ByteArray := prog_1_method_26_code
def yX9_hand : MethodName := ⟨RX9, "hand", "(II)I"⟩
abbrev cX9_serialOf : ByteArray := prog_1_method_27_code
def yX9_serialOf : MethodName := ⟨RX9, "serialOf", "(I)I"⟩
abbrev cX9_round : ByteArray := prog_1_method_30_code
def yX9_round : MethodName := ⟨RX9, "round", "()I"⟩
abbrev cX9_lost : ByteArray := prog_1_method_31_code
def yX9_lost : MethodName := ⟨RX9, "lost", "()I"⟩
abbrev cX9_isUp : ByteArray := prog_1_method_32_code
def yX9_isUp : MethodName := ⟨RX9, "isUp", "(I)Z"⟩
abbrev cX9_roleOf : ByteArray := prog_1_method_33_code
def yX9_roleOf : MethodName := ⟨RX9, "roleOf", "(I)I"⟩
abbrev cX9_termOf : ByteArray := prog_1_method_34_code
def yX9_termOf : MethodName := ⟨RX9, "termOf", "(I)I"⟩
abbrev cX9_votedFor : ByteArray := prog_1_method_35_code
def yX9_votedFor : MethodName := ⟨RX9, "votedFor", "(I)I"⟩
abbrev cX9_follows : ByteArray := prog_1_method_36_code
def yX9_follows : MethodName := ⟨RX9, "follows", "(I)I"⟩
abbrev cX9_waitedOf : ByteArray := prog_1_method_37_code
def yX9_waitedOf : MethodName := ⟨RX9, "waitedOf", "(I)I"⟩
abbrev cX9_snapshotOf : ByteArray := prog_1_method_39_code
def yX9_snapshotOf : MethodName := ⟨RX9, "snapshotOf", "(I)I"⟩
abbrev cX9_lastOf : ByteArray := prog_1_method_40_code
def yX9_lastOf : MethodName := ⟨RX9, "lastOf", "(I)I"⟩
abbrev cX9_lastTermOf : ByteArray := prog_1_method_41_code
def yX9_lastTermOf : MethodName := ⟨RX9, "lastTermOf", "(I)I"⟩
abbrev cX9_committedOf : ByteArray := prog_1_method_42_code
def yX9_committedOf : MethodName := ⟨RX9, "committedOf", "(I)I"⟩
abbrev cX9_membersOf : ByteArray := prog_1_method_43_code
def yX9_membersOf : MethodName := ⟨RX9, "membersOf", "(I)I"⟩
abbrev cX9_termAt : ByteArray := prog_1_method_45_code
def yX9_termAt : MethodName := ⟨RX9, "termAt", "(II)I"⟩
abbrev cX9_kindAt : ByteArray := prog_1_method_46_code
def yX9_kindAt : MethodName := ⟨RX9, "kindAt", "(II)I"⟩
abbrev cX9_valueAt : ByteArray := prog_1_method_47_code
def yX9_valueAt : MethodName := ⟨RX9, "valueAt", "(II)I"⟩
abbrev cX9_clientAt : ByteArray := prog_1_method_48_code
def yX9_clientAt : MethodName := ⟨RX9, "clientAt", "(II)I"⟩
abbrev cX9_serialAt : ByteArray := prog_1_method_49_code
def yX9_serialAt : MethodName := ⟨RX9, "serialAt", "(II)I"⟩
abbrev cX9_valueOf : ByteArray := prog_1_method_50_code
def yX9_valueOf : MethodName := ⟨RX9, "valueOf", "(II)I"⟩
abbrev cX9_appliedSerial : ByteArray := prog_1_method_51_code
def yX9_appliedSerial : MethodName := ⟨RX9, "appliedSerial", "(II)I"⟩
abbrev cX9_nextOf : ByteArray := prog_1_method_52_code
def yX9_nextOf : MethodName := ⟨RX9, "nextOf", "(II)I"⟩
abbrev cX9_matchedOf : ByteArray := prog_1_method_53_code
def yX9_matchedOf : MethodName := ⟨RX9, "matchedOf", "(II)I"⟩
abbrev cX9_leader : ByteArray := prog_1_method_54_code
def yX9_leader : MethodName := ⟨RX9, "leader", "()I"⟩
abbrev cX9_leaders : ByteArray := prog_1_method_55_code
def yX9_leaders : MethodName := ⟨RX9, "leaders", "()I"⟩
abbrev cX9_committed : ByteArray := prog_1_method_56_code
def yX9_committed : MethodName := ⟨RX9, "committed", "()I"⟩
abbrev cX9_agreeUpTo : ByteArray := prog_1_method_57_code
def yX9_agreeUpTo : MethodName := ⟨RX9, "agreeUpTo", "(II)I"⟩
abbrev cX9_digest : ByteArray := prog_1_method_67_code
def yX9_digest : MethodName := ⟨RX9, "digest", "()J"⟩
abbrev cX9_digestMessages : ByteArray := prog_1_method_68_code
def yX9_digestMessages : MethodName := ⟨RX9, "digestMessages", "(J)J"⟩
abbrev cX9_digestClients : ByteArray := prog_1_method_69_code
def yX9_digestClients : MethodName := ⟨RX9, "digestClients", "(J)J"⟩
abbrev cX9_digestServer : ByteArray := prog_1_method_70_code
def yX9_digestServer : MethodName := ⟨RX9, "digestServer", "(JLQuorumLog$Server;)J"⟩
abbrev cX9_digestLog : ByteArray := prog_1_method_71_code
def yX9_digestLog : MethodName := ⟨RX9, "digestLog", "(JLQuorumLog$Server;)J"⟩
abbrev cX9_digestTable : ByteArray := prog_1_method_72_code
def yX9_digestTable : MethodName := ⟨RX9, "digestTable", "(JLQuorumLog$Table;)J"⟩
abbrev cX9_digestOthers : ByteArray := prog_1_method_73_code
def yX9_digestOthers : MethodName := ⟨RX9, "digestOthers", "(JLQuorumLog$Server;)J"⟩
abbrev cX9_refuseIf : ByteArray := prog_1_method_75_code
def yX9_refuseIf : MethodName := ⟨RX9, "refuseIf", "(Z)V"⟩
abbrev cX9_checkServer : ByteArray := prog_1_method_76_code
def yX9_checkServer : MethodName := ⟨RX9, "checkServer", "(I)V"⟩
abbrev cX9_checkPair : ByteArray := prog_1_method_77_code
def yX9_checkPair : MethodName := ⟨RX9, "checkPair", "(II)V"⟩
abbrev cX9_checkClient : ByteArray := prog_1_method_78_code
def yX9_checkClient : MethodName := ⟨RX9, "checkClient", "(I)V"⟩
abbrev cX9_checkKey : ByteArray := prog_1_method_79_code
def yX9_checkKey : MethodName := ⟨RX9, "checkKey", "(I)V"⟩
abbrev cX9_checkMessage : ByteArray := prog_1_method_80_code
def yX9_checkMessage : MethodName := ⟨RX9, "checkMessage", "(I)V"⟩
abbrev cX9_checkRequest : ByteArray := prog_1_method_81_code
def yX9_checkRequest : MethodName := ⟨RX9, "checkRequest", "(IIII)V"⟩
abbrev cX9_isTooGreat : ByteArray := prog_1_method_82_code
def yX9_isTooGreat : MethodName := ⟨RX9, "isTooGreat", "(I)Z"⟩
abbrev cX9_serverNumbered : ByteArray := prog_1_method_83_code
def yX9_serverNumbered : MethodName := ⟨RX9, "serverNumbered", "(I)LQuorumLog$Server;"⟩
abbrev cX9_entryOf : ByteArray := prog_1_method_85_code
def yX9_entryOf : MethodName := ⟨RX9, "entryOf", "(II)LQuorumLog$Entry;"⟩
def RX10 : String := "QuorumLogModel$State"
def TX10 : u_T := fun k => match k with
  | _ => ("", "", "", false)
def tyX10 : Nat → FieldType := fun k => match k with
  | _ => .int
abbrev wsX100 : List Cond := u_ws RX10 TX10 0
theorem nmX10 : ∀ a, a < 0 → ∀ b, b < 0 → a ≠ b → (TX10 a).2.1 ≠ (TX10 b).2.1 := by decide +kernel
theorem tyX10_ok : ∀ k, k < 0 → parseFieldDescriptor (TX10 k).2.2.1 = some (tyX10 k) := by decide +kernel
def RX11 : String := "QuorumLogModel"
def TX11 : u_T := fun k => match k with
  | _ => ("", "", "", false)
def tyX11 : Nat → FieldType := fun k => match k with
  | _ => .int
abbrev wsX110 : List Cond := u_ws RX11 TX11 0
theorem nmX11 : ∀ a, a < 0 → ∀ b, b < 0 → a ≠ b → (TX11 a).2.1 ≠ (TX11 b).2.1 := by decide +kernel
theorem tyX11_ok : ∀ k, k < 0 → parseFieldDescriptor (TX11 k).2.2.1 = some (tyX11 k) := by decide +kernel
def RJx145de : String := "java/io/Serializable"
def RJ6 : String := "java/lang/Integer"
abbrev cJ6_bitCount_0f7a4 : ByteArray := prog_18_method_49_code
def yJ6_bitCount_0f7a4 : MethodName := ⟨RJ6, "bitCount", "(I)I"⟩
def RJ9 : String := "java/lang/Math"
abbrev cJ9_max_7cf53 : ByteArray := prog_19_method_65_code
def yJ9_max_7cf53 : MethodName := ⟨RJ9, "max", "(II)I"⟩
abbrev cJ9_min_7cf53 : ByteArray := prog_19_method_69_code
def yJ9_min_7cf53 : MethodName := ⟨RJ9, "min", "(II)I"⟩
def RJ0 : String := "java/lang/String"
def RJ10 : String := "java/lang/System"
def RJ7 : String := "java/util/Arrays"
abbrev cJ7_fill_53178 : ByteArray := prog_24_method_103_code
def yJ7_fill_53178 : MethodName := ⟨RJ7, "fill", "([II)V"⟩
def RL : String := "QuorumLogLaw"
abbrev cL_below : ByteArray := method_2_code
def yL_below : MethodName := ⟨RL, "below", "(II)I"⟩
abbrev cL_cell : ByteArray := method_3_code
def yL_cell : MethodName := ⟨RL, "cell", "([II)I"⟩
abbrev cL_act : ByteArray := method_4_code
def yL_act : MethodName := ⟨RL, "act", "(LQuorumLog;I)I"⟩
abbrev cL_law : ByteArray := code
def yL_law : MethodName := ⟨RL, "law", "([I)Z"⟩
abbrev cL_leadsAlone : ByteArray := method_6_code
def yL_leadsAlone : MethodName := ⟨RL, "leadsAlone", "(LQuorumLog;I[I)Z"⟩
abbrev cL_isSound : ByteArray := method_7_code
def yL_isSound : MethodName := ⟨RL, "isSound", "(LQuorumLog;I)Z"⟩
abbrev cL_agree : ByteArray := method_8_code
def yL_agree : MethodName := ⟨RL, "agree", "(LQuorumLog;II)Z"⟩
abbrev vwCl : List vw_C := [(RX0, TX0, 3), (RX1, TX1, 4), (RX2, TX2, 4), (RX3, TX3, 11), (RX4, TX4, 6), (RX5, TX5, 6), (RX6, TX6, 18), (RX7, TX7, 4), (RX8, TX8, 3), (RX9, TX9, 2)]
