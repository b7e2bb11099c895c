section
-- ===== PART A: goes FIRST, ahead of the names: the tables' words, and 'selects' of the private methods out of them =====
/-- a private method of a class that the tables say can be made, by its rows of tables_1 -/
def lw_okq (q : MethodName × Nat) : Prop := (q.1.cls ≠ "java/lang/invoke/MethodHandle" ∧ q.1.cls ≠ "java/lang/invoke/VarHandle") ∧ Cond.instantiable q.1.cls q.2 ∈ tables_1 ∧ Cond.privateMethod q.1 ∈ tables_1 ∧ Cond.instanceMethod q.1 ∈ tables_1
theorem lw_p0 : lw_okq (⟨"LeaderlessMap", "workingReplica", "(I)LLeaderlessMap$Replica;"⟩, 5) := ⟨⟨by decide +kernel, by decide +kernel⟩, List.mem_of_getElem? (i := 14) (by decide +kernel), List.mem_of_getElem? (i := 160) (by decide +kernel), List.mem_of_getElem? (i := 161) (by decide +kernel)⟩
theorem lw_p1 : lw_okq (⟨"LeaderlessMap", "isReplica", "(I)Z"⟩, 5) := ⟨⟨by decide +kernel, by decide +kernel⟩, List.mem_of_getElem? (i := 14) (by decide +kernel), List.mem_of_getElem? (i := 164) (by decide +kernel), List.mem_of_getElem? (i := 165) (by decide +kernel)⟩
theorem lw_p2 : lw_okq (⟨"LeaderlessMap", "isKey", "(I)Z"⟩, 5) := ⟨⟨by decide +kernel, by decide +kernel⟩, List.mem_of_getElem? (i := 14) (by decide +kernel), List.mem_of_getElem? (i := 168) (by decide +kernel), List.mem_of_getElem? (i := 169) (by decide +kernel)⟩
theorem lw_p3 : lw_okq (⟨"LeaderlessMap$Replica", "fitted", "(ILLeaderlessMap$Order;)LLeaderlessMap$Order;"⟩, 8) := ⟨⟨by decide +kernel, by decide +kernel⟩, List.mem_of_getElem? (i := 43) (by decide +kernel), List.mem_of_getElem? (i := 226) (by decide +kernel), List.mem_of_getElem? (i := 227) (by decide +kernel)⟩
theorem lw_p4 : lw_okq (⟨"LeaderlessMap", "entryAt", "(II)LLeaderlessMap$Entry;"⟩, 5) := ⟨⟨by decide +kernel, by decide +kernel⟩, List.mem_of_getElem? (i := 14) (by decide +kernel), List.mem_of_getElem? (i := 326) (by decide +kernel), List.mem_of_getElem? (i := 327) (by decide +kernel)⟩
theorem lw_p5 : lw_okq (⟨"LeaderlessMap$Replica", "nextBallot", "(I)I"⟩, 8) := ⟨⟨by decide +kernel, by decide +kernel⟩, List.mem_of_getElem? (i := 43) (by decide +kernel), List.mem_of_getElem? (i := 338) (by decide +kernel), List.mem_of_getElem? (i := 339) (by decide +kernel)⟩
theorem lw_p6 : lw_okq (⟨"LeaderlessMap$Replica", "sendToOthers", "(IIILLeaderlessMap$Order;)V"⟩, 8) := ⟨⟨by decide +kernel, by decide +kernel⟩, List.mem_of_getElem? (i := 43) (by decide +kernel), List.mem_of_getElem? (i := 342) (by decide +kernel), List.mem_of_getElem? (i := 343) (by decide +kernel)⟩
theorem lw_p7 : lw_okq (⟨"LeaderlessMap$Replica", "sendBack", "(LLeaderlessMap$Message;ILLeaderlessMap$Order;LLeaderlessMap$Report;)V"⟩, 8) := ⟨⟨by decide +kernel, by decide +kernel⟩, List.mem_of_getElem? (i := 43) (by decide +kernel), List.mem_of_getElem? (i := 367) (by decide +kernel), List.mem_of_getElem? (i := 368) (by decide +kernel)⟩
theorem lw_p8 : lw_okq (⟨"LeaderlessMap$Replica", "onPreaccept", "(LLeaderlessMap$Message;LLeaderlessMap$Entry;)V"⟩, 8) := ⟨⟨by decide +kernel, by decide +kernel⟩, List.mem_of_getElem? (i := 43) (by decide +kernel), List.mem_of_getElem? (i := 371) (by decide +kernel), List.mem_of_getElem? (i := 372) (by decide +kernel)⟩
theorem lw_p9 : lw_okq (⟨"LeaderlessMap$Replica", "onPreacceptOk", "(LLeaderlessMap$Message;)V"⟩, 8) := ⟨⟨by decide +kernel, by decide +kernel⟩, List.mem_of_getElem? (i := 43) (by decide +kernel), List.mem_of_getElem? (i := 380) (by decide +kernel), List.mem_of_getElem? (i := 381) (by decide +kernel)⟩
theorem lw_p10 : lw_okq (⟨"LeaderlessMap$Replica", "liveAttempt", "(LLeaderlessMap$Message;I)LLeaderlessMap$Attempt;"⟩, 8) := ⟨⟨by decide +kernel, by decide +kernel⟩, List.mem_of_getElem? (i := 43) (by decide +kernel), List.mem_of_getElem? (i := 384) (by decide +kernel), List.mem_of_getElem? (i := 385) (by decide +kernel)⟩
theorem lw_p11 : lw_okq (⟨"LeaderlessMap$Replica", "commitHere", "(ILLeaderlessMap$Order;)V"⟩, 8) := ⟨⟨by decide +kernel, by decide +kernel⟩, List.mem_of_getElem? (i := 43) (by decide +kernel), List.mem_of_getElem? (i := 393) (by decide +kernel), List.mem_of_getElem? (i := 394) (by decide +kernel)⟩
theorem lw_p12 : lw_okq (⟨"LeaderlessMap$Replica", "beginAccepting", "(ILLeaderlessMap$Attempt;LLeaderlessMap$Order;)V"⟩, 8) := ⟨⟨by decide +kernel, by decide +kernel⟩, List.mem_of_getElem? (i := 43) (by decide +kernel), List.mem_of_getElem? (i := 397) (by decide +kernel), List.mem_of_getElem? (i := 398) (by decide +kernel)⟩
theorem lw_p13 : lw_okq (⟨"LeaderlessMap$Replica", "onAccept", "(LLeaderlessMap$Message;LLeaderlessMap$Entry;)V"⟩, 8) := ⟨⟨by decide +kernel, by decide +kernel⟩, List.mem_of_getElem? (i := 43) (by decide +kernel), List.mem_of_getElem? (i := 405) (by decide +kernel), List.mem_of_getElem? (i := 406) (by decide +kernel)⟩
theorem lw_p14 : lw_okq (⟨"LeaderlessMap$Replica", "onAcceptOk", "(LLeaderlessMap$Message;)V"⟩, 8) := ⟨⟨by decide +kernel, by decide +kernel⟩, List.mem_of_getElem? (i := 43) (by decide +kernel), List.mem_of_getElem? (i := 409) (by decide +kernel), List.mem_of_getElem? (i := 410) (by decide +kernel)⟩
theorem lw_p15 : lw_okq (⟨"LeaderlessMap$Replica", "onCommit", "(LLeaderlessMap$Message;LLeaderlessMap$Entry;)V"⟩, 8) := ⟨⟨by decide +kernel, by decide +kernel⟩, List.mem_of_getElem? (i := 43) (by decide +kernel), List.mem_of_getElem? (i := 413) (by decide +kernel), List.mem_of_getElem? (i := 414) (by decide +kernel)⟩
def lw_privs_1 : List (MethodName × Nat) := [(⟨"LeaderlessMap", "workingReplica", "(I)LLeaderlessMap$Replica;"⟩, 5), (⟨"LeaderlessMap", "isReplica", "(I)Z"⟩, 5), (⟨"LeaderlessMap", "isKey", "(I)Z"⟩, 5), (⟨"LeaderlessMap$Replica", "fitted", "(ILLeaderlessMap$Order;)LLeaderlessMap$Order;"⟩, 8), (⟨"LeaderlessMap", "entryAt", "(II)LLeaderlessMap$Entry;"⟩, 5), (⟨"LeaderlessMap$Replica", "nextBallot", "(I)I"⟩, 8), (⟨"LeaderlessMap$Replica", "sendToOthers", "(IIILLeaderlessMap$Order;)V"⟩, 8), (⟨"LeaderlessMap$Replica", "sendBack", "(LLeaderlessMap$Message;ILLeaderlessMap$Order;LLeaderlessMap$Report;)V"⟩, 8), (⟨"LeaderlessMap$Replica", "onPreaccept", "(LLeaderlessMap$Message;LLeaderlessMap$Entry;)V"⟩, 8), (⟨"LeaderlessMap$Replica", "onPreacceptOk", "(LLeaderlessMap$Message;)V"⟩, 8), (⟨"LeaderlessMap$Replica", "liveAttempt", "(LLeaderlessMap$Message;I)LLeaderlessMap$Attempt;"⟩, 8), (⟨"LeaderlessMap$Replica", "commitHere", "(ILLeaderlessMap$Order;)V"⟩, 8), (⟨"LeaderlessMap$Replica", "beginAccepting", "(ILLeaderlessMap$Attempt;LLeaderlessMap$Order;)V"⟩, 8), (⟨"LeaderlessMap$Replica", "onAccept", "(LLeaderlessMap$Message;LLeaderlessMap$Entry;)V"⟩, 8), (⟨"LeaderlessMap$Replica", "onAcceptOk", "(LLeaderlessMap$Message;)V"⟩, 8), (⟨"LeaderlessMap$Replica", "onCommit", "(LLeaderlessMap$Message;LLeaderlessMap$Entry;)V"⟩, 8)]
theorem lw_r1 : ∀ q ∈ lw_privs_1, lw_okq q := List.forall_mem_cons.mpr ⟨lw_p0, List.forall_mem_cons.mpr ⟨lw_p1, List.forall_mem_cons.mpr ⟨lw_p2, List.forall_mem_cons.mpr ⟨lw_p3, List.forall_mem_cons.mpr ⟨lw_p4, List.forall_mem_cons.mpr ⟨lw_p5, List.forall_mem_cons.mpr ⟨lw_p6, List.forall_mem_cons.mpr ⟨lw_p7, List.forall_mem_cons.mpr ⟨lw_p8, List.forall_mem_cons.mpr ⟨lw_p9, List.forall_mem_cons.mpr ⟨lw_p10, List.forall_mem_cons.mpr ⟨lw_p11, List.forall_mem_cons.mpr ⟨lw_p12, List.forall_mem_cons.mpr ⟨lw_p13, List.forall_mem_cons.mpr ⟨lw_p14, List.forall_mem_cons.mpr ⟨lw_p15, fun _ h => absurd h List.not_mem_nil⟩⟩⟩⟩⟩⟩⟩⟩⟩⟩⟩⟩⟩⟩⟩⟩
theorem lw_p16 : lw_okq (⟨"LeaderlessMap$Replica", "onPrepare", "(LLeaderlessMap$Message;LLeaderlessMap$Entry;)V"⟩, 8) := ⟨⟨by decide +kernel, by decide +kernel⟩, List.mem_of_getElem? (i := 43) (by decide +kernel), List.mem_of_getElem? (i := 417) (by decide +kernel), List.mem_of_getElem? (i := 418) (by decide +kernel)⟩
theorem lw_p17 : lw_okq (⟨"LeaderlessMap$Replica", "onPromise", "(LLeaderlessMap$Message;LLeaderlessMap$Entry;)V"⟩, 8) := ⟨⟨by decide +kernel, by decide +kernel⟩, List.mem_of_getElem? (i := 43) (by decide +kernel), List.mem_of_getElem? (i := 444) (by decide +kernel), List.mem_of_getElem? (i := 445) (by decide +kernel)⟩
theorem lw_p18 : lw_okq (⟨"LeaderlessMap$Replica", "finishOpen", "(ILLeaderlessMap$Attempt;)V"⟩, 8) := ⟨⟨by decide +kernel, by decide +kernel⟩, List.mem_of_getElem? (i := 43) (by decide +kernel), List.mem_of_getElem? (i := 452) (by decide +kernel), List.mem_of_getElem? (i := 453) (by decide +kernel)⟩
theorem lw_p19 : lw_okq (⟨"LeaderlessMap$Attempt", "countSharers", "(LLeaderlessMap$Order;I)I"⟩, 8) := ⟨⟨by decide +kernel, by decide +kernel⟩, List.mem_of_getElem? (i := 240) (by decide +kernel), List.mem_of_getElem? (i := 468) (by decide +kernel), List.mem_of_getElem? (i := 469) (by decide +kernel)⟩
theorem lw_p20 : lw_okq (⟨"LeaderlessMap$Replica", "preacceptAgain", "(ILLeaderlessMap$Attempt;LLeaderlessMap$Command;)V"⟩, 8) := ⟨⟨by decide +kernel, by decide +kernel⟩, List.mem_of_getElem? (i := 43) (by decide +kernel), List.mem_of_getElem? (i := 480) (by decide +kernel), List.mem_of_getElem? (i := 481) (by decide +kernel)⟩
theorem lw_p21 : lw_okq (⟨"LeaderlessMap$Store", "findReach", "([LLeaderlessMap$Entry;)V"⟩, 4) := ⟨⟨by decide +kernel, by decide +kernel⟩, List.mem_of_getElem? (i := 91) (by decide +kernel), List.mem_of_getElem? (i := 502) (by decide +kernel), List.mem_of_getElem? (i := 503) (by decide +kernel)⟩
theorem lw_p22 : lw_okq (⟨"LeaderlessMap$Store", "leastReadyComponent", "([LLeaderlessMap$Entry;)I"⟩, 4) := ⟨⟨by decide +kernel, by decide +kernel⟩, List.mem_of_getElem? (i := 91) (by decide +kernel), List.mem_of_getElem? (i := 509) (by decide +kernel), List.mem_of_getElem? (i := 510) (by decide +kernel)⟩
theorem lw_p23 : lw_okq (⟨"LeaderlessMap$Store", "readyComponent", "(I)I"⟩, 4) := ⟨⟨by decide +kernel, by decide +kernel⟩, List.mem_of_getElem? (i := 91) (by decide +kernel), List.mem_of_getElem? (i := 513) (by decide +kernel), List.mem_of_getElem? (i := 514) (by decide +kernel)⟩
theorem lw_p24 : lw_okq (⟨"LeaderlessMap$Store", "runComponent", "([LLeaderlessMap$Entry;I)V"⟩, 4) := ⟨⟨by decide +kernel, by decide +kernel⟩, List.mem_of_getElem? (i := 91) (by decide +kernel), List.mem_of_getElem? (i := 517) (by decide +kernel), List.mem_of_getElem? (i := 518) (by decide +kernel)⟩
theorem lw_p25 : lw_okq (⟨"LeaderlessMap$Store", "leastSeq", "([LLeaderlessMap$Entry;I)I"⟩, 4) := ⟨⟨by decide +kernel, by decide +kernel⟩, List.mem_of_getElem? (i := 91) (by decide +kernel), List.mem_of_getElem? (i := 521) (by decide +kernel), List.mem_of_getElem? (i := 522) (by decide +kernel)⟩
theorem lw_p26 : lw_okq (⟨"LeaderlessMap$Store", "runEntry", "(LLeaderlessMap$Entry;)V"⟩, 4) := ⟨⟨by decide +kernel, by decide +kernel⟩, List.mem_of_getElem? (i := 91) (by decide +kernel), List.mem_of_getElem? (i := 525) (by decide +kernel), List.mem_of_getElem? (i := 526) (by decide +kernel)⟩
theorem lw_p27 : lw_okq (⟨"LeaderlessMap", "orderAt", "(II)LLeaderlessMap$Order;"⟩, 5) := ⟨⟨by decide +kernel, by decide +kernel⟩, List.mem_of_getElem? (i := 14) (by decide +kernel), List.mem_of_getElem? (i := 550) (by decide +kernel), List.mem_of_getElem? (i := 551) (by decide +kernel)⟩
theorem lw_p28 : lw_okq (⟨"LeaderlessMapModel", "take", "(I)V"⟩, 30) := ⟨⟨by decide +kernel, by decide +kernel⟩, List.mem_of_getElem? (i := 585) (by decide +kernel), List.mem_of_getElem? (i := 687) (by decide +kernel), List.mem_of_getElem? (i := 688) (by decide +kernel)⟩
theorem lw_p29 : lw_okq (⟨"LeaderlessMapModel", "receive", "(IIII)V"⟩, 30) := ⟨⟨by decide +kernel, by decide +kernel⟩, List.mem_of_getElem? (i := 585) (by decide +kernel), List.mem_of_getElem? (i := 695) (by decide +kernel), List.mem_of_getElem? (i := 696) (by decide +kernel)⟩
theorem lw_p30 : lw_okq (⟨"LeaderlessMapModel", "send", "(IIIII)V"⟩, 30) := ⟨⟨by decide +kernel, by decide +kernel⟩, List.mem_of_getElem? (i := 585) (by decide +kernel), List.mem_of_getElem? (i := 699) (by decide +kernel), List.mem_of_getElem? (i := 700) (by decide +kernel)⟩
theorem lw_p31 : lw_okq (⟨"LeaderlessMapModel", "preaccept", "(III)V"⟩, 30) := ⟨⟨by decide +kernel, by decide +kernel⟩, List.mem_of_getElem? (i := 585) (by decide +kernel), List.mem_of_getElem? (i := 703) (by decide +kernel), List.mem_of_getElem? (i := 704) (by decide +kernel)⟩
def lw_privs_2 : List (MethodName × Nat) := [(⟨"LeaderlessMap$Replica", "onPrepare", "(LLeaderlessMap$Message;LLeaderlessMap$Entry;)V"⟩, 8), (⟨"LeaderlessMap$Replica", "onPromise", "(LLeaderlessMap$Message;LLeaderlessMap$Entry;)V"⟩, 8), (⟨"LeaderlessMap$Replica", "finishOpen", "(ILLeaderlessMap$Attempt;)V"⟩, 8), (⟨"LeaderlessMap$Attempt", "countSharers", "(LLeaderlessMap$Order;I)I"⟩, 8), (⟨"LeaderlessMap$Replica", "preacceptAgain", "(ILLeaderlessMap$Attempt;LLeaderlessMap$Command;)V"⟩, 8), (⟨"LeaderlessMap$Store", "findReach", "([LLeaderlessMap$Entry;)V"⟩, 4), (⟨"LeaderlessMap$Store", "leastReadyComponent", "([LLeaderlessMap$Entry;)I"⟩, 4), (⟨"LeaderlessMap$Store", "readyComponent", "(I)I"⟩, 4), (⟨"LeaderlessMap$Store", "runComponent", "([LLeaderlessMap$Entry;I)V"⟩, 4), (⟨"LeaderlessMap$Store", "leastSeq", "([LLeaderlessMap$Entry;I)I"⟩, 4), (⟨"LeaderlessMap$Store", "runEntry", "(LLeaderlessMap$Entry;)V"⟩, 4), (⟨"LeaderlessMap", "orderAt", "(II)LLeaderlessMap$Order;"⟩, 5), (⟨"LeaderlessMapModel", "take", "(I)V"⟩, 30), (⟨"LeaderlessMapModel", "receive", "(IIII)V"⟩, 30), (⟨"LeaderlessMapModel", "send", "(IIIII)V"⟩, 30), (⟨"LeaderlessMapModel", "preaccept", "(III)V"⟩, 30)]
theorem lw_r2 : ∀ q ∈ lw_privs_2, lw_okq q := List.forall_mem_cons.mpr ⟨lw_p16, List.forall_mem_cons.mpr ⟨lw_p17, List.forall_mem_cons.mpr ⟨lw_p18, List.forall_mem_cons.mpr ⟨lw_p19, List.forall_mem_cons.mpr ⟨lw_p20, List.forall_mem_cons.mpr ⟨lw_p21, List.forall_mem_cons.mpr ⟨lw_p22, List.forall_mem_cons.mpr ⟨lw_p23, List.forall_mem_cons.mpr ⟨lw_p24, List.forall_mem_cons.mpr ⟨lw_p25, List.forall_mem_cons.mpr ⟨lw_p26, List.forall_mem_cons.mpr ⟨lw_p27, List.forall_mem_cons.mpr ⟨lw_p28, List.forall_mem_cons.mpr ⟨lw_p29, List.forall_mem_cons.mpr ⟨lw_p30, List.forall_mem_cons.mpr ⟨lw_p31, fun _ h => absurd h List.not_mem_nil⟩⟩⟩⟩⟩⟩⟩⟩⟩⟩⟩⟩⟩⟩⟩⟩
theorem lw_p32 : lw_okq (⟨"LeaderlessMapModel", "fit", "(IIIIII)V"⟩, 30) := ⟨⟨by decide +kernel, by decide +kernel⟩, List.mem_of_getElem? (i := 585) (by decide +kernel), List.mem_of_getElem? (i := 707) (by decide +kernel), List.mem_of_getElem? (i := 708) (by decide +kernel)⟩
theorem lw_p33 : lw_okq (⟨"LeaderlessMapModel", "related", "(IIII)Z"⟩, 30) := ⟨⟨by decide +kernel, by decide +kernel⟩, List.mem_of_getElem? (i := 585) (by decide +kernel), List.mem_of_getElem? (i := 711) (by decide +kernel), List.mem_of_getElem? (i := 712) (by decide +kernel)⟩
theorem lw_p34 : lw_okq (⟨"LeaderlessMapModel", "put", "(IIII)V"⟩, 30) := ⟨⟨by decide +kernel, by decide +kernel⟩, List.mem_of_getElem? (i := 585) (by decide +kernel), List.mem_of_getElem? (i := 718) (by decide +kernel), List.mem_of_getElem? (i := 719) (by decide +kernel)⟩
theorem lw_p35 : lw_okq (⟨"LeaderlessMapModel", "accept", "(III)V"⟩, 30) := ⟨⟨by decide +kernel, by decide +kernel⟩, List.mem_of_getElem? (i := 585) (by decide +kernel), List.mem_of_getElem? (i := 722) (by decide +kernel), List.mem_of_getElem? (i := 723) (by decide +kernel)⟩
theorem lw_p36 : lw_okq (⟨"LeaderlessMapModel", "asked", "(III)V"⟩, 30) := ⟨⟨by decide +kernel, by decide +kernel⟩, List.mem_of_getElem? (i := 585) (by decide +kernel), List.mem_of_getElem? (i := 726) (by decide +kernel), List.mem_of_getElem? (i := 727) (by decide +kernel)⟩
theorem lw_p37 : lw_okq (⟨"LeaderlessMapModel", "settle", "(I)V"⟩, 30) := ⟨⟨by decide +kernel, by decide +kernel⟩, List.mem_of_getElem? (i := 585) (by decide +kernel), List.mem_of_getElem? (i := 730) (by decide +kernel), List.mem_of_getElem? (i := 731) (by decide +kernel)⟩
theorem lw_p38 : lw_okq (⟨"LeaderlessMapModel", "counts", "(II)Z"⟩, 30) := ⟨⟨by decide +kernel, by decide +kernel⟩, List.mem_of_getElem? (i := 585) (by decide +kernel), List.mem_of_getElem? (i := 734) (by decide +kernel), List.mem_of_getElem? (i := 735) (by decide +kernel)⟩
theorem lw_p39 : lw_okq (⟨"LeaderlessMapModel", "afterPreaccept", "(II)V"⟩, 30) := ⟨⟨by decide +kernel, by decide +kernel⟩, List.mem_of_getElem? (i := 585) (by decide +kernel), List.mem_of_getElem? (i := 738) (by decide +kernel), List.mem_of_getElem? (i := 739) (by decide +kernel)⟩
theorem lw_p40 : lw_okq (⟨"LeaderlessMapModel", "finish", "(IIII)V"⟩, 30) := ⟨⟨by decide +kernel, by decide +kernel⟩, List.mem_of_getElem? (i := 585) (by decide +kernel), List.mem_of_getElem? (i := 742) (by decide +kernel), List.mem_of_getElem? (i := 743) (by decide +kernel)⟩
theorem lw_p41 : lw_okq (⟨"LeaderlessMapModel", "sendAll", "(IIII)V"⟩, 30) := ⟨⟨by decide +kernel, by decide +kernel⟩, List.mem_of_getElem? (i := 585) (by decide +kernel), List.mem_of_getElem? (i := 746) (by decide +kernel), List.mem_of_getElem? (i := 747) (by decide +kernel)⟩
theorem lw_p42 : lw_okq (⟨"LeaderlessMapModel", "agree", "(IIIIII)V"⟩, 30) := ⟨⟨by decide +kernel, by decide +kernel⟩, List.mem_of_getElem? (i := 585) (by decide +kernel), List.mem_of_getElem? (i := 750) (by decide +kernel), List.mem_of_getElem? (i := 751) (by decide +kernel)⟩
theorem lw_p43 : lw_okq (⟨"LeaderlessMapModel", "start", "(III)V"⟩, 30) := ⟨⟨by decide +kernel, by decide +kernel⟩, List.mem_of_getElem? (i := 585) (by decide +kernel), List.mem_of_getElem? (i := 754) (by decide +kernel), List.mem_of_getElem? (i := 755) (by decide +kernel)⟩
theorem lw_p44 : lw_okq (⟨"LeaderlessMapModel", "afterPromise", "(II)V"⟩, 30) := ⟨⟨by decide +kernel, by decide +kernel⟩, List.mem_of_getElem? (i := 585) (by decide +kernel), List.mem_of_getElem? (i := 758) (by decide +kernel), List.mem_of_getElem? (i := 759) (by decide +kernel)⟩
theorem lw_p45 : lw_okq (⟨"LeaderlessMapModel", "accepted", "(II)I"⟩, 30) := ⟨⟨by decide +kernel, by decide +kernel⟩, List.mem_of_getElem? (i := 585) (by decide +kernel), List.mem_of_getElem? (i := 762) (by decide +kernel), List.mem_of_getElem? (i := 763) (by decide +kernel)⟩
theorem lw_p46 : lw_okq (⟨"LeaderlessMapModel", "common", "(III)I"⟩, 30) := ⟨⟨by decide +kernel, by decide +kernel⟩, List.mem_of_getElem? (i := 585) (by decide +kernel), List.mem_of_getElem? (i := 766) (by decide +kernel), List.mem_of_getElem? (i := 767) (by decide +kernel)⟩
theorem lw_p47 : lw_okq (⟨"LeaderlessMapModel", "plain", "(II)Z"⟩, 30) := ⟨⟨by decide +kernel, by decide +kernel⟩, List.mem_of_getElem? (i := 585) (by decide +kernel), List.mem_of_getElem? (i := 770) (by decide +kernel), List.mem_of_getElem? (i := 771) (by decide +kernel)⟩
def lw_privs_3 : List (MethodName × Nat) := [(⟨"LeaderlessMapModel", "fit", "(IIIIII)V"⟩, 30), (⟨"LeaderlessMapModel", "related", "(IIII)Z"⟩, 30), (⟨"LeaderlessMapModel", "put", "(IIII)V"⟩, 30), (⟨"LeaderlessMapModel", "accept", "(III)V"⟩, 30), (⟨"LeaderlessMapModel", "asked", "(III)V"⟩, 30), (⟨"LeaderlessMapModel", "settle", "(I)V"⟩, 30), (⟨"LeaderlessMapModel", "counts", "(II)Z"⟩, 30), (⟨"LeaderlessMapModel", "afterPreaccept", "(II)V"⟩, 30), (⟨"LeaderlessMapModel", "finish", "(IIII)V"⟩, 30), (⟨"LeaderlessMapModel", "sendAll", "(IIII)V"⟩, 30), (⟨"LeaderlessMapModel", "agree", "(IIIIII)V"⟩, 30), (⟨"LeaderlessMapModel", "start", "(III)V"⟩, 30), (⟨"LeaderlessMapModel", "afterPromise", "(II)V"⟩, 30), (⟨"LeaderlessMapModel", "accepted", "(II)I"⟩, 30), (⟨"LeaderlessMapModel", "common", "(III)I"⟩, 30), (⟨"LeaderlessMapModel", "plain", "(II)Z"⟩, 30)]
theorem lw_r3 : ∀ q ∈ lw_privs_3, lw_okq q := List.forall_mem_cons.mpr ⟨lw_p32, List.forall_mem_cons.mpr ⟨lw_p33, List.forall_mem_cons.mpr ⟨lw_p34, List.forall_mem_cons.mpr ⟨lw_p35, List.forall_mem_cons.mpr ⟨lw_p36, List.forall_mem_cons.mpr ⟨lw_p37, List.forall_mem_cons.mpr ⟨lw_p38, List.forall_mem_cons.mpr ⟨lw_p39, List.forall_mem_cons.mpr ⟨lw_p40, List.forall_mem_cons.mpr ⟨lw_p41, List.forall_mem_cons.mpr ⟨lw_p42, List.forall_mem_cons.mpr ⟨lw_p43, List.forall_mem_cons.mpr ⟨lw_p44, List.forall_mem_cons.mpr ⟨lw_p45, List.forall_mem_cons.mpr ⟨lw_p46, List.forall_mem_cons.mpr ⟨lw_p47, fun _ h => absurd h List.not_mem_nil⟩⟩⟩⟩⟩⟩⟩⟩⟩⟩⟩⟩⟩⟩⟩⟩
theorem lw_p48 : lw_okq (⟨"LeaderlessMapModel", "preaccepted", "(II)I"⟩, 30) := ⟨⟨by decide +kernel, by decide +kernel⟩, List.mem_of_getElem? (i := 585) (by decide +kernel), List.mem_of_getElem? (i := 774) (by decide +kernel), List.mem_of_getElem? (i := 775) (by decide +kernel)⟩
theorem lw_p49 : lw_okq (⟨"LeaderlessMapModel", "known", "(II)Z"⟩, 30) := ⟨⟨by decide +kernel, by decide +kernel⟩, List.mem_of_getElem? (i := 585) (by decide +kernel), List.mem_of_getElem? (i := 786) (by decide +kernel), List.mem_of_getElem? (i := 787) (by decide +kernel)⟩
theorem lw_p50 : lw_okq (⟨"LeaderlessMapModel", "reachable", "(I)V"⟩, 30) := ⟨⟨by decide +kernel, by decide +kernel⟩, List.mem_of_getElem? (i := 585) (by decide +kernel), List.mem_of_getElem? (i := 798) (by decide +kernel), List.mem_of_getElem? (i := 799) (by decide +kernel)⟩
theorem lw_p51 : lw_okq (⟨"LeaderlessMapModel", "component", "(I)I"⟩, 30) := ⟨⟨by decide +kernel, by decide +kernel⟩, List.mem_of_getElem? (i := 585) (by decide +kernel), List.mem_of_getElem? (i := 802) (by decide +kernel), List.mem_of_getElem? (i := 803) (by decide +kernel)⟩
theorem lw_p52 : lw_okq (⟨"LeaderlessMapModel", "ready", "(II)Z"⟩, 30) := ⟨⟨by decide +kernel, by decide +kernel⟩, List.mem_of_getElem? (i := 585) (by decide +kernel), List.mem_of_getElem? (i := 806) (by decide +kernel), List.mem_of_getElem? (i := 807) (by decide +kernel)⟩
theorem lw_p53 : lw_okq (⟨"LeaderlessMapModel", "next", "(II)I"⟩, 30) := ⟨⟨by decide +kernel, by decide +kernel⟩, List.mem_of_getElem? (i := 585) (by decide +kernel), List.mem_of_getElem? (i := 810) (by decide +kernel), List.mem_of_getElem? (i := 811) (by decide +kernel)⟩
theorem lw_p54 : lw_okq (⟨"LeaderlessMapModel", "act", "(II)V"⟩, 30) := ⟨⟨by decide +kernel, by decide +kernel⟩, List.mem_of_getElem? (i := 585) (by decide +kernel), List.mem_of_getElem? (i := 814) (by decide +kernel), List.mem_of_getElem? (i := 815) (by decide +kernel)⟩
theorem lw_p55 : lw_okq (⟨"LeaderlessMapModel", "named", "(II)Z"⟩, 30) := ⟨⟨by decide +kernel, by decide +kernel⟩, List.mem_of_getElem? (i := 585) (by decide +kernel), List.mem_of_getElem? (i := 838) (by decide +kernel), List.mem_of_getElem? (i := 839) (by decide +kernel)⟩
theorem lw_p56 : lw_okq (⟨"LeaderlessMapModel", "over", "(II)Z"⟩, 30) := ⟨⟨by decide +kernel, by decide +kernel⟩, List.mem_of_getElem? (i := 585) (by decide +kernel), List.mem_of_getElem? (i := 858) (by decide +kernel), List.mem_of_getElem? (i := 859) (by decide +kernel)⟩
def lw_privs_4 : List (MethodName × Nat) := [(⟨"LeaderlessMapModel", "preaccepted", "(II)I"⟩, 30), (⟨"LeaderlessMapModel", "known", "(II)Z"⟩, 30), (⟨"LeaderlessMapModel", "reachable", "(I)V"⟩, 30), (⟨"LeaderlessMapModel", "component", "(I)I"⟩, 30), (⟨"LeaderlessMapModel", "ready", "(II)Z"⟩, 30), (⟨"LeaderlessMapModel", "next", "(II)I"⟩, 30), (⟨"LeaderlessMapModel", "act", "(II)V"⟩, 30), (⟨"LeaderlessMapModel", "named", "(II)Z"⟩, 30), (⟨"LeaderlessMapModel", "over", "(II)Z"⟩, 30)]
theorem lw_r4 : ∀ q ∈ lw_privs_4, lw_okq q := List.forall_mem_cons.mpr ⟨lw_p48, List.forall_mem_cons.mpr ⟨lw_p49, List.forall_mem_cons.mpr ⟨lw_p50, List.forall_mem_cons.mpr ⟨lw_p51, List.forall_mem_cons.mpr ⟨lw_p52, List.forall_mem_cons.mpr ⟨lw_p53, List.forall_mem_cons.mpr ⟨lw_p54, List.forall_mem_cons.mpr ⟨lw_p55, List.forall_mem_cons.mpr ⟨lw_p56, fun _ h => absurd h List.not_mem_nil⟩⟩⟩⟩⟩⟩⟩⟩⟩
def lw_privs : List (MethodName × Nat) := lw_privs_1 ++ (lw_privs_2 ++ (lw_privs_3 ++ (lw_privs_4)))
def lw_tbl : List Cond := k2_sels lw_privs ++ tables_1
theorem lw_privs_ok : ∀ q ∈ lw_privs, lw_okq q := by
  show ∀ q ∈ lw_privs_1 ++ (lw_privs_2 ++ (lw_privs_3 ++ (lw_privs_4))), lw_okq q
  exact List.forall_mem_append.mpr ⟨lw_r1, List.forall_mem_append.mpr ⟨lw_r2, List.forall_mem_append.mpr ⟨lw_r3, lw_r4⟩⟩⟩
end
section
/-! names: classes, their fields, methods and their code -/
def R_LM : String := "LeaderlessMap"
def F_LM : u_T := fun k => match k with
  | 0 => ("LeaderlessMap", "size", "I", true)
  | 1 => ("LeaderlessMap", "faults", "I", true)
  | 2 => ("LeaderlessMap", "network", "LLeaderlessMap$Network;", true)
  | 3 => ("LeaderlessMap", "replicas", "[LLeaderlessMap$Replica;", true)
  | _ => ("LeaderlessMap", "crashes", "I", false)
def t_LM : Nat → FieldType := fun k => match k with
  | 0 => .int
  | 1 => .int
  | 2 => (.object "LeaderlessMap$Network")
  | 3 => (.array (.object "LeaderlessMap$Replica"))
  | _ => .int
theorem n_LM : ∀ a, a < 5 → ∀ b, b < 5 → a ≠ b → (F_LM a).2.1 ≠ (F_LM b).2.1 := by decide +kernel
theorem t_LM_ok : ∀ k, k < 5 → parseFieldDescriptor (F_LM k).2.2.1 = some (t_LM k) := by decide +kernel
def R_Net : String := "LeaderlessMap$Network"
def F_Net : u_T := fun k => match k with
  | 0 => ("LeaderlessMap$Network", "line", "[LLeaderlessMap$Message;", true)
  | 1 => ("LeaderlessMap$Network", "underWay", "I", false)
  | _ => ("LeaderlessMap$Network", "dropped", "I", false)
def t_Net : Nat → FieldType := fun k => match k with
  | 0 => (.array (.object "LeaderlessMap$Message"))
  | 1 => .int
  | _ => .int
theorem n_Net : ∀ a, a < 3 → ∀ b, b < 3 → a ≠ b → (F_Net a).2.1 ≠ (F_Net b).2.1 := by decide +kernel
theorem t_Net_ok : ∀ k, k < 3 → parseFieldDescriptor (F_Net k).2.2.1 = some (t_Net k) := by decide +kernel
def R_Rp : String := "LeaderlessMap$Replica"
def F_Rp : u_T := fun k => match k with
  | 0 => ("LeaderlessMap$Replica", "number", "I", true)
  | 1 => ("LeaderlessMap$Replica", "size", "I", true)
  | 2 => ("LeaderlessMap$Replica", "faults", "I", true)
  | 3 => ("LeaderlessMap$Replica", "network", "LLeaderlessMap$Network;", true)
  | 4 => ("LeaderlessMap$Replica", "entries", "[LLeaderlessMap$Entry;", true)
  | 5 => ("LeaderlessMap$Replica", "attempts", "[LLeaderlessMap$Attempt;", true)
  | 6 => ("LeaderlessMap$Replica", "store", "LLeaderlessMap$Store;", true)
  | _ => ("LeaderlessMap$Replica", "crashed", "Z", false)
def t_Rp : Nat → FieldType := fun k => match k with
  | 0 => .int
  | 1 => .int
  | 2 => .int
  | 3 => (.object "LeaderlessMap$Network")
  | 4 => (.array (.object "LeaderlessMap$Entry"))
  | 5 => (.array (.object "LeaderlessMap$Attempt"))
  | 6 => (.object "LeaderlessMap$Store")
  | _ => .boolean
theorem n_Rp : ∀ a, a < 8 → ∀ b, b < 8 → a ≠ b → (F_Rp a).2.1 ≠ (F_Rp b).2.1 := by decide +kernel
theorem t_Rp_ok : ∀ k, k < 8 → parseFieldDescriptor (F_Rp k).2.2.1 = some (t_Rp k) := by decide +kernel
def R_En : String := "LeaderlessMap$Entry"
def F_En : u_T := fun k => match k with
  | 0 => ("LeaderlessMap$Entry", "state", "I", false)
  | 1 => ("LeaderlessMap$Entry", "order", "LLeaderlessMap$Order;", false)
  | 2 => ("LeaderlessMap$Entry", "promised", "I", false)
  | 3 => ("LeaderlessMap$Entry", "voted", "I", false)
  | 4 => ("LeaderlessMap$Entry", "result", "I", false)
  | _ => ("LeaderlessMap$Entry", "place", "I", false)
def t_En : Nat → FieldType := fun k => match k with
  | 0 => .int
  | 1 => (.object "LeaderlessMap$Order")
  | 2 => .int
  | 3 => .int
  | 4 => .int
  | _ => .int
theorem n_En : ∀ a, a < 6 → ∀ b, b < 6 → a ≠ b → (F_En a).2.1 ≠ (F_En b).2.1 := by decide +kernel
theorem t_En_ok : ∀ k, k < 6 → parseFieldDescriptor (F_En k).2.2.1 = some (t_En k) := by decide +kernel
def R_Sto : String := "LeaderlessMap$Store"
def F_Sto : u_T := fun k => match k with
  | 0 => ("LeaderlessMap$Store", "values", "[I", true)
  | 1 => ("LeaderlessMap$Store", "reach", "[I", true)
  | 2 => ("LeaderlessMap$Store", "executedSet", "I", false)
  | _ => ("LeaderlessMap$Store", "executedCount", "I", false)
def t_Sto : Nat → FieldType := fun k => match k with
  | 0 => (.array .int)
  | 1 => (.array .int)
  | 2 => .int
  | _ => .int
theorem n_Sto : ∀ a, a < 4 → ∀ b, b < 4 → a ≠ b → (F_Sto a).2.1 ≠ (F_Sto b).2.1 := by decide +kernel
theorem t_Sto_ok : ∀ k, k < 4 → parseFieldDescriptor (F_Sto k).2.2.1 = some (t_Sto k) := by decide +kernel
def R_At : String := "LeaderlessMap$Attempt"
def F_At : u_T := fun k => match k with
  | 0 => ("LeaderlessMap$Attempt", "ballot", "I", true)
  | 1 => ("LeaderlessMap$Attempt", "fast", "Z", true)
  | 2 => ("LeaderlessMap$Attempt", "reports", "[LLeaderlessMap$Report;", true)
  | 3 => ("LeaderlessMap$Attempt", "phase", "I", false)
  | 4 => ("LeaderlessMap$Attempt", "replies", "I", false)
  | 5 => ("LeaderlessMap$Attempt", "agreed", "Z", false)
  | 6 => ("LeaderlessMap$Attempt", "greatestSeq", "I", false)
  | _ => ("LeaderlessMap$Attempt", "allDeps", "I", false)
def t_At : Nat → FieldType := fun k => match k with
  | 0 => .int
  | 1 => .boolean
  | 2 => (.array (.object "LeaderlessMap$Report"))
  | 3 => .int
  | 4 => .int
  | 5 => .boolean
  | 6 => .int
  | _ => .int
theorem n_At : ∀ a, a < 8 → ∀ b, b < 8 → a ≠ b → (F_At a).2.1 ≠ (F_At b).2.1 := by decide +kernel
theorem t_At_ok : ∀ k, k < 8 → parseFieldDescriptor (F_At k).2.2.1 = some (t_At k) := by decide +kernel
def R_Cmd : String := "LeaderlessMap$Command"
def F_Cmd : u_T := fun k => match k with
  | 0 => ("LeaderlessMap$Command", "kind", "I", true)
  | 1 => ("LeaderlessMap$Command", "key", "I", true)
  | _ => ("LeaderlessMap$Command", "newValue", "I", true)
def t_Cmd : Nat → FieldType := fun k => match k with
  | 0 => .int
  | 1 => .int
  | _ => .int
theorem n_Cmd : ∀ a, a < 3 → ∀ b, b < 3 → a ≠ b → (F_Cmd a).2.1 ≠ (F_Cmd b).2.1 := by decide +kernel
theorem t_Cmd_ok : ∀ k, k < 3 → parseFieldDescriptor (F_Cmd k).2.2.1 = some (t_Cmd k) := by decide +kernel
def R_Or : String := "LeaderlessMap$Order"
def F_Or : u_T := fun k => match k with
  | 0 => ("LeaderlessMap$Order", "command", "LLeaderlessMap$Command;", true)
  | 1 => ("LeaderlessMap$Order", "seq", "I", true)
  | _ => ("LeaderlessMap$Order", "deps", "I", true)
def t_Or : Nat → FieldType := fun k => match k with
  | 0 => (.object "LeaderlessMap$Command")
  | 1 => .int
  | _ => .int
theorem n_Or : ∀ a, a < 3 → ∀ b, b < 3 → a ≠ b → (F_Or a).2.1 ≠ (F_Or b).2.1 := by decide +kernel
theorem t_Or_ok : ∀ k, k < 3 → parseFieldDescriptor (F_Or k).2.2.1 = some (t_Or k) := by decide +kernel
def R_Rt : String := "LeaderlessMap$Report"
def F_Rt : u_T := fun k => match k with
  | 0 => ("LeaderlessMap$Report", "sender", "I", true)
  | 1 => ("LeaderlessMap$Report", "state", "I", true)
  | 2 => ("LeaderlessMap$Report", "order", "LLeaderlessMap$Order;", true)
  | _ => ("LeaderlessMap$Report", "voted", "I", true)
def t_Rt : Nat → FieldType := fun k => match k with
  | 0 => .int
  | 1 => .int
  | 2 => (.object "LeaderlessMap$Order")
  | _ => .int
theorem n_Rt : ∀ a, a < 4 → ∀ b, b < 4 → a ≠ b → (F_Rt a).2.1 ≠ (F_Rt b).2.1 := by decide +kernel
theorem t_Rt_ok : ∀ k, k < 4 → parseFieldDescriptor (F_Rt k).2.2.1 = some (t_Rt k) := by decide +kernel
def R_Ms : String := "LeaderlessMap$Message"
def F_Ms : u_T := fun k => match k with
  | 0 => ("LeaderlessMap$Message", "kind", "I", true)
  | 1 => ("LeaderlessMap$Message", "sender", "I", true)
  | 2 => ("LeaderlessMap$Message", "receiver", "I", true)
  | 3 => ("LeaderlessMap$Message", "instance", "I", true)
  | 4 => ("LeaderlessMap$Message", "ballot", "I", true)
  | 5 => ("LeaderlessMap$Message", "order", "LLeaderlessMap$Order;", true)
  | _ => ("LeaderlessMap$Message", "report", "LLeaderlessMap$Report;", true)
def t_Ms : Nat → FieldType := fun k => match k with
  | 0 => .int
  | 1 => .int
  | 2 => .int
  | 3 => .int
  | 4 => .int
  | 5 => (.object "LeaderlessMap$Order")
  | _ => (.object "LeaderlessMap$Report")
theorem n_Ms : ∀ a, a < 7 → ∀ b, b < 7 → a ≠ b → (F_Ms a).2.1 ≠ (F_Ms b).2.1 := by decide +kernel
theorem t_Ms_ok : ∀ k, k < 7 → parseFieldDescriptor (F_Ms k).2.2.1 = some (t_Ms k) := by decide +kernel
def R_Md : String := "LeaderlessMapModel"
def F_Md : u_T := fun k => match k with
  | 0 => ("LeaderlessMapModel", "n", "I", false)
  | 1 => ("LeaderlessMapModel", "f", "I", false)
  | 2 => ("LeaderlessMapModel", "instances", "I", false)
  | 3 => ("LeaderlessMapModel", "crashed", "[Z", true)
  | 4 => ("LeaderlessMapModel", "map", "[I", true)
  | 5 => ("LeaderlessMapModel", "done", "[I", true)
  | 6 => ("LeaderlessMapModel", "state", "[I", true)
  | 7 => ("LeaderlessMapModel", "command", "[I", true)
  | 8 => ("LeaderlessMapModel", "input", "[I", true)
  | 9 => ("LeaderlessMapModel", "seq", "[I", true)
  | 10 => ("LeaderlessMapModel", "deps", "[I", true)
  | 11 => ("LeaderlessMapModel", "promised", "[I", true)
  | 12 => ("LeaderlessMapModel", "voted", "[I", true)
  | 13 => ("LeaderlessMapModel", "place", "[I", true)
  | 14 => ("LeaderlessMapModel", "result", "[I", true)
  | 15 => ("LeaderlessMapModel", "tries", "[Z", true)
  | 16 => ("LeaderlessMapModel", "phase", "[I", true)
  | 17 => ("LeaderlessMapModel", "ballot", "[I", true)
  | 18 => ("LeaderlessMapModel", "count", "[I", true)
  | 19 => ("LeaderlessMapModel", "rFrom", "[I", true)
  | 20 => ("LeaderlessMapModel", "rState", "[I", true)
  | 21 => ("LeaderlessMapModel", "rCommand", "[I", true)
  | 22 => ("LeaderlessMapModel", "rInput", "[I", true)
  | 23 => ("LeaderlessMapModel", "rSeq", "[I", true)
  | 24 => ("LeaderlessMapModel", "rDeps", "[I", true)
  | 25 => ("LeaderlessMapModel", "rVoted", "[I", true)
  | 26 => ("LeaderlessMapModel", "under", "I", false)
  | 27 => ("LeaderlessMapModel", "losses", "I", false)
  | 28 => ("LeaderlessMapModel", "mail", "[I", true)
  | _ => ("LeaderlessMapModel", "reach", "[I", true)
def t_Md : Nat → FieldType := fun k => match k with
  | 0 => .int
  | 1 => .int
  | 2 => .int
  | 3 => (.array .boolean)
  | 4 => (.array .int)
  | 5 => (.array .int)
  | 6 => (.array .int)
  | 7 => (.array .int)
  | 8 => (.array .int)
  | 9 => (.array .int)
  | 10 => (.array .int)
  | 11 => (.array .int)
  | 12 => (.array .int)
  | 13 => (.array .int)
  | 14 => (.array .int)
  | 15 => (.array .boolean)
  | 16 => (.array .int)
  | 17 => (.array .int)
  | 18 => (.array .int)
  | 19 => (.array .int)
  | 20 => (.array .int)
  | 21 => (.array .int)
  | 22 => (.array .int)
  | 23 => (.array .int)
  | 24 => (.array .int)
  | 25 => (.array .int)
  | 26 => .int
  | 27 => .int
  | 28 => (.array .int)
  | _ => (.array .int)
theorem n_Md : ∀ a, a < 30 → ∀ b, b < 30 → a ≠ b → (F_Md a).2.1 ≠ (F_Md b).2.1 := by decide +kernel
theorem t_Md_ok : ∀ k, k < 30 → parseFieldDescriptor (F_Md k).2.2.1 = some (t_Md k) := by decide +kernel
def me_cls : List vw_C := [(R_LM, F_LM, 5), (R_Net, F_Net, 3), (R_Rp, F_Rp, 8), (R_En, F_En, 6), (R_Sto, F_Sto, 4), (R_At, F_At, 8), (R_Cmd, F_Cmd, 3), (R_Or, F_Or, 3), (R_Rt, F_Rt, 4), (R_Ms, F_Ms, 7), (R_Md, F_Md, 30)]
abbrev b_Net_init : ByteArray := prog_6_method_1_code
def y_Net_init : MethodName := ⟨"LeaderlessMap$Network", "<init>", "()V"⟩
abbrev b_En_init : ByteArray := prog_4_method_1_code
def y_En_init : MethodName := ⟨"LeaderlessMap$Entry", "<init>", "()V"⟩
abbrev b_Sto_init : ByteArray := prog_10_method_1_code
def y_Sto_init : MethodName := ⟨"LeaderlessMap$Store", "<init>", "(I)V"⟩
abbrev b_Rp_init : ByteArray := prog_8_method_1_code
def y_Rp_init : MethodName := ⟨"LeaderlessMap$Replica", "<init>", "(IILLeaderlessMap$Network;)V"⟩
abbrev b_LM_init : ByteArray := prog_1_method_1_code
def y_LM_init : MethodName := ⟨"LeaderlessMap", "<init>", "(I)V"⟩
abbrev b_LM_isReplica : ByteArray := prog_1_method_19_code
def y_LM_isReplica : MethodName := ⟨"LeaderlessMap", "isReplica", "(I)Z"⟩
abbrev b_LM_workingReplica : ByteArray := prog_1_method_21_code
def y_LM_workingReplica : MethodName := ⟨"LeaderlessMap", "workingReplica", "(I)LLeaderlessMap$Replica;"⟩
abbrev b_LM_isKey : ByteArray := prog_1_method_20_code
def y_LM_isKey : MethodName := ⟨"LeaderlessMap", "isKey", "(I)Z"⟩
abbrev b_Rp_freeInstance : ByteArray := prog_8_method_2_code
def y_Rp_freeInstance : MethodName := ⟨"LeaderlessMap$Replica", "freeInstance", "()I"⟩
abbrev b_Cmd_init : ByteArray := prog_3_method_1_code
def y_Cmd_init : MethodName := ⟨"LeaderlessMap$Command", "<init>", "(III)V"⟩
abbrev b_Or_init : ByteArray := prog_7_method_1_code
def y_Or_init : MethodName := ⟨"LeaderlessMap$Order", "<init>", "(LLeaderlessMap$Command;II)V"⟩
abbrev b_Cmd_interferesWith : ByteArray := prog_3_method_2_code
def y_Cmd_interferesWith : MethodName := ⟨"LeaderlessMap$Command", "interferesWith", "(LLeaderlessMap$Command;)Z"⟩
abbrev b_Rp_fitted : ByteArray := prog_8_method_18_code
def y_Rp_fitted : MethodName := ⟨"LeaderlessMap$Replica", "fitted", "(ILLeaderlessMap$Order;)LLeaderlessMap$Order;"⟩
abbrev b_En_become : ByteArray := prog_4_method_3_code
def y_En_become : MethodName := ⟨"LeaderlessMap$Entry", "become", "(ILLeaderlessMap$Order;)V"⟩
abbrev b_At_init : ByteArray := prog_2_method_1_code
def y_At_init : MethodName := ⟨"LeaderlessMap$Attempt", "<init>", "(IIZI)V"⟩
abbrev b_Ms_init : ByteArray := prog_5_method_1_code
def y_Ms_init : MethodName := ⟨"LeaderlessMap$Message", "<init>", "(IIIIILLeaderlessMap$Order;LLeaderlessMap$Report;)V"⟩
abbrev b_Net_send : ByteArray := prog_6_method_2_code
def y_Net_send : MethodName := ⟨"LeaderlessMap$Network", "send", "(LLeaderlessMap$Message;)V"⟩
abbrev b_Rp_startCommand : ByteArray := prog_8_method_3_code
def y_Rp_startCommand : MethodName := ⟨"LeaderlessMap$Replica", "startCommand", "(ILLeaderlessMap$Command;)V"⟩
abbrev b_LM_propose : ByteArray := prog_1_method_2_code
def y_LM_propose : MethodName := ⟨"LeaderlessMap", "propose", "(IIZI)I"⟩
abbrev b_LM_entryAt : ByteArray := prog_1_method_22_code
def y_LM_entryAt : MethodName := ⟨"LeaderlessMap", "entryAt", "(II)LLeaderlessMap$Entry;"⟩
abbrev b_En_isSettled : ByteArray := prog_4_method_2_code
def y_En_isSettled : MethodName := ⟨"LeaderlessMap$Entry", "isSettled", "()Z"⟩
abbrev b_Rp_nextBallot : ByteArray := prog_8_method_19_code
def y_Rp_nextBallot : MethodName := ⟨"LeaderlessMap$Replica", "nextBallot", "(I)I"⟩
abbrev b_Rp_sendToOthers : ByteArray := prog_8_method_21_code
def y_Rp_sendToOthers : MethodName := ⟨"LeaderlessMap$Replica", "sendToOthers", "(IIILLeaderlessMap$Order;)V"⟩
abbrev b_Rp_startPreparing : ByteArray := prog_8_method_4_code
def y_Rp_startPreparing : MethodName := ⟨"LeaderlessMap$Replica", "startPreparing", "(I)I"⟩
abbrev b_LM_prepare : ByteArray := prog_1_method_3_code
def y_LM_prepare : MethodName := ⟨"LeaderlessMap", "prepare", "(II)I"⟩
abbrev b_Net_at : ByteArray := prog_6_method_3_code
def y_Net_at : MethodName := ⟨"LeaderlessMap$Network", "at", "(I)LLeaderlessMap$Message;"⟩
abbrev b_Net_take : ByteArray := prog_6_method_4_code
def y_Net_take : MethodName := ⟨"LeaderlessMap$Network", "take", "(I)LLeaderlessMap$Message;"⟩
abbrev b_Ms_asksForVote : ByteArray := prog_5_method_2_code
def y_Ms_asksForVote : MethodName := ⟨"LeaderlessMap$Message", "asksForVote", "()Z"⟩
abbrev b_Rp_sendBack : ByteArray := prog_8_method_20_code
def y_Rp_sendBack : MethodName := ⟨"LeaderlessMap$Replica", "sendBack", "(LLeaderlessMap$Message;ILLeaderlessMap$Order;LLeaderlessMap$Report;)V"⟩
abbrev b_En_vote : ByteArray := prog_4_method_4_code
def y_En_vote : MethodName := ⟨"LeaderlessMap$Entry", "vote", "(ILLeaderlessMap$Order;I)V"⟩
abbrev b_Rp_onPreaccept : ByteArray := prog_8_method_6_code
def y_Rp_onPreaccept : MethodName := ⟨"LeaderlessMap$Replica", "onPreaccept", "(LLeaderlessMap$Message;LLeaderlessMap$Entry;)V"⟩
abbrev b_Rp_liveAttempt : ByteArray := prog_8_method_17_code
def y_Rp_liveAttempt : MethodName := ⟨"LeaderlessMap$Replica", "liveAttempt", "(LLeaderlessMap$Message;I)LLeaderlessMap$Attempt;"⟩
abbrev b_At_countOrder : ByteArray := prog_2_method_3_code
def y_At_countOrder : MethodName := ⟨"LeaderlessMap$Attempt", "countOrder", "(LLeaderlessMap$Order;)V"⟩
abbrev b_Rp_commitHere : ByteArray := prog_8_method_16_code
def y_Rp_commitHere : MethodName := ⟨"LeaderlessMap$Replica", "commitHere", "(ILLeaderlessMap$Order;)V"⟩
abbrev b_At_enterPhase : ByteArray := prog_2_method_2_code
def y_At_enterPhase : MethodName := ⟨"LeaderlessMap$Attempt", "enterPhase", "(I)V"⟩
abbrev b_Rp_beginAccepting : ByteArray := prog_8_method_15_code
def y_Rp_beginAccepting : MethodName := ⟨"LeaderlessMap$Replica", "beginAccepting", "(ILLeaderlessMap$Attempt;LLeaderlessMap$Order;)V"⟩
abbrev b_Rp_onPreacceptOk : ByteArray := prog_8_method_7_code
def y_Rp_onPreacceptOk : MethodName := ⟨"LeaderlessMap$Replica", "onPreacceptOk", "(LLeaderlessMap$Message;)V"⟩
abbrev b_Rp_onAccept : ByteArray := prog_8_method_8_code
def y_Rp_onAccept : MethodName := ⟨"LeaderlessMap$Replica", "onAccept", "(LLeaderlessMap$Message;LLeaderlessMap$Entry;)V"⟩
abbrev b_Rp_onAcceptOk : ByteArray := prog_8_method_9_code
def y_Rp_onAcceptOk : MethodName := ⟨"LeaderlessMap$Replica", "onAcceptOk", "(LLeaderlessMap$Message;)V"⟩
abbrev b_Rp_onCommit : ByteArray := prog_8_method_10_code
def y_Rp_onCommit : MethodName := ⟨"LeaderlessMap$Replica", "onCommit", "(LLeaderlessMap$Message;LLeaderlessMap$Entry;)V"⟩
abbrev b_Rt_init : ByteArray := prog_9_method_1_code
def y_Rt_init : MethodName := ⟨"LeaderlessMap$Report", "<init>", "(ILLeaderlessMap$Entry;)V"⟩
abbrev b_Rp_onPrepare : ByteArray := prog_8_method_11_code
def y_Rp_onPrepare : MethodName := ⟨"LeaderlessMap$Replica", "onPrepare", "(LLeaderlessMap$Message;LLeaderlessMap$Entry;)V"⟩
abbrev b_At_countReport : ByteArray := prog_2_method_4_code
def y_At_countReport : MethodName := ⟨"LeaderlessMap$Attempt", "countReport", "(LLeaderlessMap$Report;)V"⟩
abbrev b_At_lastAccepted : ByteArray := prog_2_method_5_code
def y_At_lastAccepted : MethodName := ⟨"LeaderlessMap$Attempt", "lastAccepted", "()LLeaderlessMap$Report;"⟩
abbrev b_Rt_isFastVote : ByteArray := prog_9_method_2_code
def y_Rt_isFastVote : MethodName := ⟨"LeaderlessMap$Report", "isFastVote", "(I)Z"⟩
abbrev b_Or_agreesWith : ByteArray := prog_7_method_2_code
def y_Or_agreesWith : MethodName := ⟨"LeaderlessMap$Order", "agreesWith", "(LLeaderlessMap$Order;)Z"⟩
abbrev b_At_countSharers : ByteArray := prog_2_method_8_code
def y_At_countSharers : MethodName := ⟨"LeaderlessMap$Attempt", "countSharers", "(LLeaderlessMap$Order;I)I"⟩
abbrev b_At_sharedFastVote : ByteArray := prog_2_method_7_code
def y_At_sharedFastVote : MethodName := ⟨"LeaderlessMap$Attempt", "sharedFastVote", "(II)LLeaderlessMap$Report;"⟩
abbrev b_At_firstPreaccepted : ByteArray := prog_2_method_6_code
def y_At_firstPreaccepted : MethodName := ⟨"LeaderlessMap$Attempt", "firstPreaccepted", "()LLeaderlessMap$Report;"⟩
abbrev b_Rp_preacceptAgain : ByteArray := prog_8_method_14_code
def y_Rp_preacceptAgain : MethodName := ⟨"LeaderlessMap$Replica", "preacceptAgain", "(ILLeaderlessMap$Attempt;LLeaderlessMap$Command;)V"⟩
abbrev b_Rp_finishOpen : ByteArray := prog_8_method_13_code
def y_Rp_finishOpen : MethodName := ⟨"LeaderlessMap$Replica", "finishOpen", "(ILLeaderlessMap$Attempt;)V"⟩
abbrev b_Rp_onPromise : ByteArray := prog_8_method_12_code
def y_Rp_onPromise : MethodName := ⟨"LeaderlessMap$Replica", "onPromise", "(LLeaderlessMap$Message;LLeaderlessMap$Entry;)V"⟩
abbrev b_Rp_receive : ByteArray := prog_8_method_5_code
def y_Rp_receive : MethodName := ⟨"LeaderlessMap$Replica", "receive", "(LLeaderlessMap$Message;)V"⟩
abbrev b_LM_deliver : ByteArray := prog_1_method_4_code
def y_LM_deliver : MethodName := ⟨"LeaderlessMap", "deliver", "(I)I"⟩
abbrev b_LM_lose : ByteArray := prog_1_method_5_code
def y_LM_lose : MethodName := ⟨"LeaderlessMap", "lose", "(I)Z"⟩
abbrev b_LM_crash : ByteArray := prog_1_method_6_code
def y_LM_crash : MethodName := ⟨"LeaderlessMap", "crash", "(I)Z"⟩
abbrev b_Sto_contains : ByteArray := prog_10_method_9_code
def y_Sto_contains : MethodName := ⟨"LeaderlessMap$Store", "contains", "(II)Z"⟩
abbrev b_Sto_findReach : ByteArray := prog_10_method_3_code
def y_Sto_findReach : MethodName := ⟨"LeaderlessMap$Store", "findReach", "([LLeaderlessMap$Entry;)V"⟩
abbrev b_Sto_readyComponent : ByteArray := prog_10_method_5_code
def y_Sto_readyComponent : MethodName := ⟨"LeaderlessMap$Store", "readyComponent", "(I)I"⟩
abbrev b_Sto_leastReadyComponent : ByteArray := prog_10_method_4_code
def y_Sto_leastReadyComponent : MethodName := ⟨"LeaderlessMap$Store", "leastReadyComponent", "([LLeaderlessMap$Entry;)I"⟩
abbrev b_Sto_leastSeq : ByteArray := prog_10_method_7_code
def y_Sto_leastSeq : MethodName := ⟨"LeaderlessMap$Store", "leastSeq", "([LLeaderlessMap$Entry;I)I"⟩
abbrev b_Sto_runEntry : ByteArray := prog_10_method_8_code
def y_Sto_runEntry : MethodName := ⟨"LeaderlessMap$Store", "runEntry", "(LLeaderlessMap$Entry;)V"⟩
abbrev b_Sto_runComponent : ByteArray := prog_10_method_6_code
def y_Sto_runComponent : MethodName := ⟨"LeaderlessMap$Store", "runComponent", "([LLeaderlessMap$Entry;I)V"⟩
abbrev b_Sto_runReady : ByteArray := prog_10_method_2_code
def y_Sto_runReady : MethodName := ⟨"LeaderlessMap$Store", "runReady", "([LLeaderlessMap$Entry;)I"⟩
abbrev b_LM_execute : ByteArray := prog_1_method_7_code
def y_LM_execute : MethodName := ⟨"LeaderlessMap", "execute", "(I)I"⟩
abbrev b_LM_waiting : ByteArray := prog_1_method_8_code
def y_LM_waiting : MethodName := ⟨"LeaderlessMap", "waiting", "()I"⟩
abbrev b_LM_message : ByteArray := prog_1_method_9_code
def y_LM_message : MethodName := ⟨"LeaderlessMap", "message", "(I)I"⟩
abbrev b_LM_lost : ByteArray := prog_1_method_10_code
def y_LM_lost : MethodName := ⟨"LeaderlessMap", "lost", "()I"⟩
abbrev b_LM_state : ByteArray := prog_1_method_11_code
def y_LM_state : MethodName := ⟨"LeaderlessMap", "state", "(II)I"⟩
abbrev b_LM_orderAt : ByteArray := prog_1_method_23_code
def y_LM_orderAt : MethodName := ⟨"LeaderlessMap", "orderAt", "(II)LLeaderlessMap$Order;"⟩
abbrev b_Cmd_code : ByteArray := prog_3_method_3_code
def y_Cmd_code : MethodName := ⟨"LeaderlessMap$Command", "code", "()I"⟩
abbrev b_LM_command : ByteArray := prog_1_method_12_code
def y_LM_command : MethodName := ⟨"LeaderlessMap", "command", "(II)I"⟩
abbrev b_LM_seq : ByteArray := prog_1_method_13_code
def y_LM_seq : MethodName := ⟨"LeaderlessMap", "seq", "(II)I"⟩
abbrev b_LM_deps : ByteArray := prog_1_method_14_code
def y_LM_deps : MethodName := ⟨"LeaderlessMap", "deps", "(II)I"⟩
abbrev b_LM_promised : ByteArray := prog_1_method_15_code
def y_LM_promised : MethodName := ⟨"LeaderlessMap", "promised", "(II)I"⟩
abbrev b_LM_result : ByteArray := prog_1_method_16_code
def y_LM_result : MethodName := ⟨"LeaderlessMap", "result", "(II)I"⟩
abbrev b_LM_place : ByteArray := prog_1_method_17_code
def y_LM_place : MethodName := ⟨"LeaderlessMap", "place", "(II)I"⟩
abbrev b_LM_value : ByteArray := prog_1_method_18_code
def y_LM_value : MethodName := ⟨"LeaderlessMap", "value", "(II)I"⟩
abbrev b_Md_init : ByteArray := prog_12_method_1_code
def y_Md_init : MethodName := ⟨"LeaderlessMapModel", "<init>", "(I)V"⟩
abbrev b_Md_known : ByteArray := prog_12_method_2_code
def y_Md_known : MethodName := ⟨"LeaderlessMapModel", "known", "(II)Z"⟩
abbrev b_Md_interfere : ByteArray := prog_12_method_3_code
def y_Md_interfere : MethodName := ⟨"LeaderlessMapModel", "interfere", "(II)Z"⟩
abbrev b_Md_related : ByteArray := prog_12_method_4_code
def y_Md_related : MethodName := ⟨"LeaderlessMapModel", "related", "(IIII)Z"⟩
abbrev b_Md_put : ByteArray := prog_12_method_6_code
def y_Md_put : MethodName := ⟨"LeaderlessMapModel", "put", "(IIII)V"⟩
abbrev b_Md_fit : ByteArray := prog_12_method_5_code
def y_Md_fit : MethodName := ⟨"LeaderlessMapModel", "fit", "(IIIIII)V"⟩
abbrev b_Md_send : ByteArray := prog_12_method_7_code
def y_Md_send : MethodName := ⟨"LeaderlessMapModel", "send", "(IIIII)V"⟩
abbrev b_Md_sendAll : ByteArray := prog_12_method_8_code
def y_Md_sendAll : MethodName := ⟨"LeaderlessMapModel", "sendAll", "(IIII)V"⟩
abbrev b_Md_take : ByteArray := prog_12_method_9_code
def y_Md_take : MethodName := ⟨"LeaderlessMapModel", "take", "(I)V"⟩
abbrev b_Md_lose : ByteArray := prog_12_method_10_code
def y_Md_lose : MethodName := ⟨"LeaderlessMapModel", "lose", "(I)Z"⟩
abbrev b_Md_preaccept : ByteArray := prog_12_method_13_code
def y_Md_preaccept : MethodName := ⟨"LeaderlessMapModel", "preaccept", "(III)V"⟩
abbrev b_Md_accept : ByteArray := prog_12_method_14_code
def y_Md_accept : MethodName := ⟨"LeaderlessMapModel", "accept", "(III)V"⟩
abbrev b_Md_asked : ByteArray := prog_12_method_15_code
def y_Md_asked : MethodName := ⟨"LeaderlessMapModel", "asked", "(III)V"⟩
abbrev b_Md_settle : ByteArray := prog_12_method_16_code
def y_Md_settle : MethodName := ⟨"LeaderlessMapModel", "settle", "(I)V"⟩
abbrev b_Md_counts : ByteArray := prog_12_method_17_code
def y_Md_counts : MethodName := ⟨"LeaderlessMapModel", "counts", "(II)Z"⟩
abbrev b_Md_finish : ByteArray := prog_12_method_21_code
def y_Md_finish : MethodName := ⟨"LeaderlessMapModel", "finish", "(IIII)V"⟩
abbrev b_Md_start : ByteArray := prog_12_method_18_code
def y_Md_start : MethodName := ⟨"LeaderlessMapModel", "start", "(III)V"⟩
abbrev b_Md_agree : ByteArray := prog_12_method_20_code
def y_Md_agree : MethodName := ⟨"LeaderlessMapModel", "agree", "(IIIIII)V"⟩
abbrev b_Md_afterPreaccept : ByteArray := prog_12_method_19_code
def y_Md_afterPreaccept : MethodName := ⟨"LeaderlessMapModel", "afterPreaccept", "(II)V"⟩
abbrev b_Md_accepted : ByteArray := prog_12_method_22_code
def y_Md_accepted : MethodName := ⟨"LeaderlessMapModel", "accepted", "(II)I"⟩
abbrev b_Md_plain : ByteArray := prog_12_method_23_code
def y_Md_plain : MethodName := ⟨"LeaderlessMapModel", "plain", "(II)Z"⟩
abbrev b_Md_common : ByteArray := prog_12_method_24_code
def y_Md_common : MethodName := ⟨"LeaderlessMapModel", "common", "(III)I"⟩
abbrev b_Md_preaccepted : ByteArray := prog_12_method_25_code
def y_Md_preaccepted : MethodName := ⟨"LeaderlessMapModel", "preaccepted", "(II)I"⟩
abbrev b_Md_afterPromise : ByteArray := prog_12_method_26_code
def y_Md_afterPromise : MethodName := ⟨"LeaderlessMapModel", "afterPromise", "(II)V"⟩
abbrev b_Md_receive : ByteArray := prog_12_method_12_code
def y_Md_receive : MethodName := ⟨"LeaderlessMapModel", "receive", "(IIII)V"⟩
abbrev b_Md_deliver : ByteArray := prog_12_method_11_code
def y_Md_deliver : MethodName := ⟨"LeaderlessMapModel", "deliver", "(I)I"⟩
abbrev b_Md_propose : ByteArray := prog_12_method_27_code
def y_Md_propose : MethodName := ⟨"LeaderlessMapModel", "propose", "(IIZI)I"⟩
abbrev b_Md_prepare : ByteArray := prog_12_method_28_code
def y_Md_prepare : MethodName := ⟨"LeaderlessMapModel", "prepare", "(II)I"⟩
abbrev b_Md_crash : ByteArray := prog_12_method_29_code
def y_Md_crash : MethodName := ⟨"LeaderlessMapModel", "crash", "(I)Z"⟩
abbrev b_Md_reachable : ByteArray := prog_12_method_30_code
def y_Md_reachable : MethodName := ⟨"LeaderlessMapModel", "reachable", "(I)V"⟩
abbrev b_Md_component : ByteArray := prog_12_method_31_code
def y_Md_component : MethodName := ⟨"LeaderlessMapModel", "component", "(I)I"⟩
abbrev b_Md_ready : ByteArray := prog_12_method_32_code
def y_Md_ready : MethodName := ⟨"LeaderlessMapModel", "ready", "(II)Z"⟩
abbrev b_Md_next : ByteArray := prog_12_method_33_code
def y_Md_next : MethodName := ⟨"LeaderlessMapModel", "next", "(II)I"⟩
abbrev b_Md_act : ByteArray := prog_12_method_34_code
def y_Md_act : MethodName := ⟨"LeaderlessMapModel", "act", "(II)V"⟩
abbrev b_Md_execute : ByteArray := prog_12_method_35_code
def y_Md_execute : MethodName := ⟨"LeaderlessMapModel", "execute", "(I)I"⟩
abbrev b_Md_waiting : ByteArray := prog_12_method_36_code
def y_Md_waiting : MethodName := ⟨"LeaderlessMapModel", "waiting", "()I"⟩
abbrev b_Md_message : ByteArray := prog_12_method_37_code
def y_Md_message : MethodName := ⟨"LeaderlessMapModel", "message", "(I)I"⟩
abbrev b_Md_lost : ByteArray := prog_12_method_38_code
def y_Md_lost : MethodName := ⟨"LeaderlessMapModel", "lost", "()I"⟩
abbrev b_Md_named : ByteArray := prog_12_method_39_code
def y_Md_named : MethodName := ⟨"LeaderlessMapModel", "named", "(II)Z"⟩
abbrev b_Md_state : ByteArray := prog_12_method_40_code
def y_Md_state : MethodName := ⟨"LeaderlessMapModel", "state", "(II)I"⟩
abbrev b_Md_command : ByteArray := prog_12_method_41_code
def y_Md_command : MethodName := ⟨"LeaderlessMapModel", "command", "(II)I"⟩
abbrev b_Md_seq : ByteArray := prog_12_method_42_code
def y_Md_seq : MethodName := ⟨"LeaderlessMapModel", "seq", "(II)I"⟩
abbrev b_Md_deps : ByteArray := prog_12_method_43_code
def y_Md_deps : MethodName := ⟨"LeaderlessMapModel", "deps", "(II)I"⟩
abbrev b_Md_promised : ByteArray := prog_12_method_44_code
def y_Md_promised : MethodName := ⟨"LeaderlessMapModel", "promised", "(II)I"⟩
abbrev b_Md_over : ByteArray := prog_12_method_45_code
def y_Md_over : MethodName := ⟨"LeaderlessMapModel", "over", "(II)Z"⟩
abbrev b_Md_result : ByteArray := prog_12_method_46_code
def y_Md_result : MethodName := ⟨"LeaderlessMapModel", "result", "(II)I"⟩
abbrev b_Md_place : ByteArray := prog_12_method_47_code
def y_Md_place : MethodName := ⟨"LeaderlessMapModel", "place", "(II)I"⟩
abbrev b_Md_value : ByteArray := prog_12_method_48_code
def y_Md_value : MethodName := ⟨"LeaderlessMapModel", "value", "(II)I"⟩
abbrev b_Law_cell : ByteArray := method_2_code
def y_Law_cell : MethodName := ⟨"LeaderlessMapLaw", "cell", "([II)I"⟩
abbrev b_Law_law : ByteArray := code
def y_Law_law : MethodName := ⟨"LeaderlessMapLaw", "law", "([I)Z"⟩
end
section
/-! the memory: what our objects and arrays hold, without the machine -/
abbrev me_V : Type := Int32 ⊕ Option Nat
abbrev me_v (x : me_V) : Value := match x with
  | .inl n => .int n
  | .inr r => va_rf r
abbrev me_M : Type := (Nat → Nat) × (Nat → Nat) × (Nat → Nat → Nat → Int32) × (Nat → Nat → Nat → Option Nat) × Nat × Nat
def mKd (M : me_M) : Nat → Nat := M.1
def mLn (M : me_M) : Nat → Nat := M.2.1
def mI (M : me_M) : Nat → Nat → Nat → Int32 := M.2.2.1
def mR (M : me_M) : Nat → Nat → Nat → Option Nat := M.2.2.2.1
def mSz (M : me_M) : Nat := M.2.2.2.2.1
def mSl (M : me_M) : Nat := M.2.2.2.2.2
def mSetI (M : me_M) (k q i : Nat) (v : Int32) : me_M := (M.1, M.2.1, fun k' q' i' => if k' = k ∧ q' = q ∧ i' = i then v else M.2.2.1 k' q' i', M.2.2.2)
def mSetR (M : me_M) (k q i : Nat) (v : Option Nat) : me_M := (M.1, M.2.1, M.2.2.1, fun k' q' i' => if k' = k ∧ q' = q ∧ i' = i then v else M.2.2.2.1 k' q' i', M.2.2.2.2)
def mNew (M : me_M) (kd ln sl : Nat) : me_M := (fun q => if q = mSz M then kd else M.1 q, fun q => if q = mSz M then ln else M.2.1 q, M.2.2.1, M.2.2.2.1, mSz M + 1, mSl M + sl)

theorem mKd_SetI (M : me_M) (k q i : Nat) (v : Int32) : mKd (mSetI M k q i v) = mKd M := rfl
theorem mLn_SetI (M : me_M) (k q i : Nat) (v : Int32) : mLn (mSetI M k q i v) = mLn M := rfl
theorem mR_SetI (M : me_M) (k q i : Nat) (v : Int32) : mR (mSetI M k q i v) = mR M := rfl
theorem mSz_SetI (M : me_M) (k q i : Nat) (v : Int32) : mSz (mSetI M k q i v) = mSz M := rfl
theorem mSl_SetI (M : me_M) (k q i : Nat) (v : Int32) : mSl (mSetI M k q i v) = mSl M := rfl
theorem mKd_SetR (M : me_M) (k q i : Nat) (v : Option Nat) : mKd (mSetR M k q i v) = mKd M := rfl
theorem mLn_SetR (M : me_M) (k q i : Nat) (v : Option Nat) : mLn (mSetR M k q i v) = mLn M := rfl
theorem mI_SetR (M : me_M) (k q i : Nat) (v : Option Nat) : mI (mSetR M k q i v) = mI M := rfl
theorem mSz_SetR (M : me_M) (k q i : Nat) (v : Option Nat) : mSz (mSetR M k q i v) = mSz M := rfl
theorem mSl_SetR (M : me_M) (k q i : Nat) (v : Option Nat) : mSl (mSetR M k q i v) = mSl M := rfl
theorem mI_SetI (M : me_M) (k q i : Nat) (v : Int32) (k' q' i' : Nat) : mI (mSetI M k q i v) k' q' i' = if k' = k ∧ q' = q ∧ i' = i then v else mI M k' q' i' := rfl
theorem mR_SetR (M : me_M) (k q i : Nat) (v : Option Nat) (k' q' i' : Nat) : mR (mSetR M k q i v) k' q' i' = if k' = k ∧ q' = q ∧ i' = i then v else mR M k' q' i' := rfl
theorem mI_New (M : me_M) (a b c : Nat) : mI (mNew M a b c) = mI M := rfl
theorem mR_New (M : me_M) (a b c : Nat) : mR (mNew M a b c) = mR M := rfl
theorem mSz_New (M : me_M) (a b c : Nat) : mSz (mNew M a b c) = mSz M + 1 := rfl
theorem mSl_New (M : me_M) (a b c : Nat) : mSl (mNew M a b c) = mSl M + c := rfl
theorem mKd_New (M : me_M) (a b c q : Nat) : mKd (mNew M a b c) q = if q = mSz M then a else mKd M q := rfl
theorem mLn_New (M : me_M) (a b c q : Nat) : mLn (mNew M a b c) q = if q = mSz M then b else mLn M q := rfl
/-- a method's tables: bytes; fields read; fields written; classes made; arrays of references made; constants; calls; the script; Object's constructor; the answer's kind (0 none, 1 int, 2 boolean, 3 a reference) -/
abbrev me_X : Type := ByteArray × (Nat → Option (Nat × Nat × Nat × Nat)) × (Nat → Option (Nat × Nat × Nat × Nat)) × (Nat → Option (Nat × Nat)) × (Nat → Option Nat) × (Nat → Option Int32) × (Nat → List me_V → me_M → Option me_V → me_M → Prop) × Option (Nat × Nat × (Nat → Int32)) × Nat × Nat
abbrev xC (X : me_X) := X.1
abbrev xF (X : me_X) := X.2.1
abbrev xG (X : me_X) := X.2.2.1
abbrev xN (X : me_X) := X.2.2.2.1
abbrev xA (X : me_X) := X.2.2.2.2.1
abbrev xK (X : me_X) := X.2.2.2.2.2.1
abbrev xCall (X : me_X) := X.2.2.2.2.2.2.1
abbrev xS (X : me_X) := X.2.2.2.2.2.2.2.1
abbrev xO (X : me_X) := X.2.2.2.2.2.2.2.2.1
abbrev xR (X : me_X) := X.2.2.2.2.2.2.2.2.2
abbrev me_J : Type := Nat → List (Option me_V) → List me_V → me_M → Prop

/-- the rules: what holds behind an instruction holds at it -/
def me_rule (me_el : Nat → Nat) (X : me_X) (v : Option me_V) (N : me_M) (J : me_J) : Nat → Prop
  | 0 => ∀ (pc : Nat) (ls : List (Option me_V)) (st : List me_V) (M : me_M) (n : Int) (w : Int32), decode (xC X) pc = .ok (.iconst n, 1) → Int32.ofInt n = w → J (pc + 1) ls (.inl w :: st) M → J pc ls st M
  | 1 => ∀ (pc : Nat) (ls : List (Option me_V)) (st : List me_V) (M : me_M) (n : Int) (w : Int32), decode (xC X) pc = .ok (.bipush n, 2) → (Int8.ofInt n).toInt32 = w → J (pc + 2) ls (.inl w :: st) M → J pc ls st M
  | 2 => ∀ (pc : Nat) (ls : List (Option me_V)) (st : List me_V) (M : me_M) (n : Int) (w : Int32), decode (xC X) pc = .ok (.sipush n, 3) → (Int16.ofInt n).toInt32 = w → J (pc + 3) ls (.inl w :: st) M → J pc ls st M
  | 3 => ∀ (pc : Nat) (ls : List (Option me_V)) (st : List me_V) (M : me_M) (n : Nat) (w : Int32), decode (xC X) pc = .ok (.ldc n, 2) → xK X n = some w → J (pc + 2) ls (.inl w :: st) M → J pc ls st M
  | 4 => ∀ (pc : Nat) (ls : List (Option me_V)) (st : List me_V) (M : me_M), decode (xC X) pc = .ok (.aconst_null, 1) → J (pc + 1) ls (.inr none :: st) M → J pc ls st M
  | 5 => ∀ (pc : Nat) (ls : List (Option me_V)) (st : List me_V) (M : me_M) (k : Fin 4) (x : Int32), decode (xC X) pc = .ok (.iload_n k, 1) → ls[(k : Nat)]? = some (some (.inl x)) → J (pc + 1) ls (.inl x :: st) M → J pc ls st M
  | 6 => ∀ (pc : Nat) (ls : List (Option me_V)) (st : List me_V) (M : me_M) (k : Nat) (x : Int32), decode (xC X) pc = .ok (.iload k, 2) → ls[k]? = some (some (.inl x)) → J (pc + 2) ls (.inl x :: st) M → J pc ls st M
  | 7 => ∀ (pc : Nat) (ls : List (Option me_V)) (st : List me_V) (M : me_M) (k : Fin 4) (x : Option Nat), decode (xC X) pc = .ok (.aload_n k, 1) → ls[(k : Nat)]? = some (some (.inr x)) → J (pc + 1) ls (.inr x :: st) M → J pc ls st M
  | 8 => ∀ (pc : Nat) (ls : List (Option me_V)) (st : List me_V) (M : me_M) (k : Nat) (x : Option Nat), decode (xC X) pc = .ok (.aload k, 2) → ls[k]? = some (some (.inr x)) → J (pc + 2) ls (.inr x :: st) M → J pc ls st M
  | 9 => ∀ (pc : Nat) (ls : List (Option me_V)) (st : List me_V) (M : me_M) (k : Fin 4) (x : Int32) (ls2 : List (Option me_V)), decode (xC X) pc = .ok (.istore_n k, 1) → (k : Nat) < ls.length → ls.set (k : Nat) (some (.inl x)) = ls2 → J (pc + 1) ls2 st M → J pc ls (.inl x :: st) M
  | 10 => ∀ (pc : Nat) (ls : List (Option me_V)) (st : List me_V) (M : me_M) (k : Nat) (x : Int32) (ls2 : List (Option me_V)), decode (xC X) pc = .ok (.istore k, 2) → k < ls.length → ls.set k (some (.inl x)) = ls2 → J (pc + 2) ls2 st M → J pc ls (.inl x :: st) M
  | 11 => ∀ (pc : Nat) (ls : List (Option me_V)) (st : List me_V) (M : me_M) (k : Fin 4) (x : Option Nat) (ls2 : List (Option me_V)), decode (xC X) pc = .ok (.astore_n k, 1) → (k : Nat) < ls.length → ls.set (k : Nat) (some (.inr x)) = ls2 → J (pc + 1) ls2 st M → J pc ls (.inr x :: st) M
  | 12 => ∀ (pc : Nat) (ls : List (Option me_V)) (st : List me_V) (M : me_M) (k : Nat) (x : Option Nat) (ls2 : List (Option me_V)), decode (xC X) pc = .ok (.astore k, 2) → k < ls.length → ls.set k (some (.inr x)) = ls2 → J (pc + 2) ls2 st M → J pc ls (.inr x :: st) M
  | 13 => ∀ (pc : Nat) (ls : List (Option me_V)) (st : List me_V) (M : me_M) (k : Nat) (n : Int) (x : Int32) (ls2 : List (Option me_V)), decode (xC X) pc = .ok (.iinc k n, 3) → ls[k]? = some (some (.inl x)) → ls.set k (some (.inl (x + Int32.ofInt n))) = ls2 → J (pc + 3) ls2 st M → J pc ls st M
  | 14 => ∀ (pc : Nat) (ls : List (Option me_V)) (st : List me_V) (M : me_M) (x y : Int32), decode (xC X) pc = .ok (.iadd, 1) → J (pc + 1) ls (.inl (x + y) :: st) M → J pc ls (.inl y :: .inl x :: st) M
  | 15 => ∀ (pc : Nat) (ls : List (Option me_V)) (st : List me_V) (M : me_M) (x y : Int32), decode (xC X) pc = .ok (.isub, 1) → J (pc + 1) ls (.inl (x - y) :: st) M → J pc ls (.inl y :: .inl x :: st) M
  | 16 => ∀ (pc : Nat) (ls : List (Option me_V)) (st : List me_V) (M : me_M) (x y : Int32), decode (xC X) pc = .ok (.imul, 1) → J (pc + 1) ls (.inl (x * y) :: st) M → J pc ls (.inl y :: .inl x :: st) M
  | 17 => ∀ (pc : Nat) (ls : List (Option me_V)) (st : List me_V) (M : me_M) (x y : Int32), decode (xC X) pc = .ok (.iand, 1) → J (pc + 1) ls (.inl (x &&& y) :: st) M → J pc ls (.inl y :: .inl x :: st) M
  | 18 => ∀ (pc : Nat) (ls : List (Option me_V)) (st : List me_V) (M : me_M) (x y : Int32), decode (xC X) pc = .ok (.ior, 1) → J (pc + 1) ls (.inl (x ||| y) :: st) M → J pc ls (.inl y :: .inl x :: st) M
  | 19 => ∀ (pc : Nat) (ls : List (Option me_V)) (st : List me_V) (M : me_M) (x y : Int32), decode (xC X) pc = .ok (.ixor, 1) → J (pc + 1) ls (.inl (x ^^^ y) :: st) M → J pc ls (.inl y :: .inl x :: st) M
  | 20 => ∀ (pc : Nat) (ls : List (Option me_V)) (st : List me_V) (M : me_M) (x y : Int32), decode (xC X) pc = .ok (.ishl, 1) → J (pc + 1) ls (.inl (x <<< (y &&& 31)) :: st) M → J pc ls (.inl y :: .inl x :: st) M
  | 21 => ∀ (pc : Nat) (ls : List (Option me_V)) (st : List me_V) (M : me_M) (x y : Int32), decode (xC X) pc = .ok (.ishr, 1) → J (pc + 1) ls (.inl (x >>> (y &&& 31)) :: st) M → J pc ls (.inl y :: .inl x :: st) M
  | 22 => ∀ (pc : Nat) (ls : List (Option me_V)) (st : List me_V) (M : me_M) (x y : Int32), decode (xC X) pc = .ok (.idiv, 1) → ¬ y = 0 → J (pc + 1) ls (.inl (x / y) :: st) M → J pc ls (.inl y :: .inl x :: st) M
  | 23 => ∀ (pc : Nat) (ls : List (Option me_V)) (st : List me_V) (M : me_M) (x y : Int32), decode (xC X) pc = .ok (.irem, 1) → ¬ y = 0 → J (pc + 1) ls (.inl (x - x / y * y) :: st) M → J pc ls (.inl y :: .inl x :: st) M
  | 24 => ∀ (pc : Nat) (ls : List (Option me_V)) (st : List me_V) (M : me_M) (x : Int32), decode (xC X) pc = .ok (.ineg, 1) → J (pc + 1) ls (.inl (-x) :: st) M → J pc ls (.inl x :: st) M
  | 25 => ∀ (pc : Nat) (ls : List (Option me_V)) (st : List me_V) (M : me_M) (x : me_V), decode (xC X) pc = .ok (.dup, 1) → J (pc + 1) ls (x :: x :: st) M → J pc ls (x :: st) M
  | 26 => ∀ (pc : Nat) (ls : List (Option me_V)) (st : List me_V) (M : me_M) (x : me_V), decode (xC X) pc = .ok (.pop, 1) → J (pc + 1) ls st M → J pc ls (x :: st) M
  | 27 => ∀ (pc : Nat) (ls : List (Option me_V)) (st : List me_V) (M : me_M) (x y : me_V), decode (xC X) pc = .ok (.dup_x1, 1) → J (pc + 1) ls (x :: y :: x :: st) M → J pc ls (x :: y :: st) M
  | 28 => ∀ (pc : Nat) (ls : List (Option me_V)) (st : List me_V) (M : me_M) (x y z : me_V), decode (xC X) pc = .ok (.dup_x2, 1) → J (pc + 1) ls (x :: y :: z :: x :: st) M → J pc ls (x :: y :: z :: st) M
  | 29 => ∀ (pc : Nat) (ls : List (Option me_V)) (st : List me_V) (M : me_M) (x y : me_V), decode (xC X) pc = .ok (.dup2, 1) → J (pc + 1) ls (x :: y :: x :: y :: st) M → J pc ls (x :: y :: st) M
  | 30 => ∀ (pc : Nat) (ls : List (Option me_V)) (st : List me_V) (M : me_M) (x : Int32) (off : Int) (tgt : Nat), decode (xC X) pc = .ok (.ifCond .eq off, 3) → (pc : Int) + off = (tgt : Int) → (x = 0 → J tgt ls st M) → (¬ x = 0 → J (pc + 3) ls st M) → J pc ls (.inl x :: st) M
  | 31 => ∀ (pc : Nat) (ls : List (Option me_V)) (st : List me_V) (M : me_M) (x : Int32) (off : Int) (tgt : Nat), decode (xC X) pc = .ok (.ifCond .ne off, 3) → (pc : Int) + off = (tgt : Int) → (¬ x = 0 → J tgt ls st M) → (x = 0 → J (pc + 3) ls st M) → J pc ls (.inl x :: st) M
  | 32 => ∀ (pc : Nat) (ls : List (Option me_V)) (st : List me_V) (M : me_M) (x : Int32) (off : Int) (tgt : Nat), decode (xC X) pc = .ok (.ifCond .lt off, 3) → (pc : Int) + off = (tgt : Int) → (x < 0 → J tgt ls st M) → (¬ x < 0 → J (pc + 3) ls st M) → J pc ls (.inl x :: st) M
  | 33 => ∀ (pc : Nat) (ls : List (Option me_V)) (st : List me_V) (M : me_M) (x : Int32) (off : Int) (tgt : Nat), decode (xC X) pc = .ok (.ifCond .ge off, 3) → (pc : Int) + off = (tgt : Int) → (0 ≤ x → J tgt ls st M) → (¬ 0 ≤ x → J (pc + 3) ls st M) → J pc ls (.inl x :: st) M
  | 34 => ∀ (pc : Nat) (ls : List (Option me_V)) (st : List me_V) (M : me_M) (x : Int32) (off : Int) (tgt : Nat), decode (xC X) pc = .ok (.ifCond .gt off, 3) → (pc : Int) + off = (tgt : Int) → (0 < x → J tgt ls st M) → (¬ 0 < x → J (pc + 3) ls st M) → J pc ls (.inl x :: st) M
  | 35 => ∀ (pc : Nat) (ls : List (Option me_V)) (st : List me_V) (M : me_M) (x : Int32) (off : Int) (tgt : Nat), decode (xC X) pc = .ok (.ifCond .le off, 3) → (pc : Int) + off = (tgt : Int) → (x ≤ 0 → J tgt ls st M) → (¬ x ≤ 0 → J (pc + 3) ls st M) → J pc ls (.inl x :: st) M
  | 36 => ∀ (pc : Nat) (ls : List (Option me_V)) (st : List me_V) (M : me_M) (x y : Int32) (off : Int) (tgt : Nat), decode (xC X) pc = .ok (.if_icmp .eq off, 3) → (pc : Int) + off = (tgt : Int) → (x = y → J tgt ls st M) → (¬ x = y → J (pc + 3) ls st M) → J pc ls (.inl y :: .inl x :: st) M
  | 37 => ∀ (pc : Nat) (ls : List (Option me_V)) (st : List me_V) (M : me_M) (x y : Int32) (off : Int) (tgt : Nat), decode (xC X) pc = .ok (.if_icmp .ne off, 3) → (pc : Int) + off = (tgt : Int) → (¬ x = y → J tgt ls st M) → (x = y → J (pc + 3) ls st M) → J pc ls (.inl y :: .inl x :: st) M
  | 38 => ∀ (pc : Nat) (ls : List (Option me_V)) (st : List me_V) (M : me_M) (x y : Int32) (off : Int) (tgt : Nat), decode (xC X) pc = .ok (.if_icmp .lt off, 3) → (pc : Int) + off = (tgt : Int) → (x < y → J tgt ls st M) → (¬ x < y → J (pc + 3) ls st M) → J pc ls (.inl y :: .inl x :: st) M
  | 39 => ∀ (pc : Nat) (ls : List (Option me_V)) (st : List me_V) (M : me_M) (x y : Int32) (off : Int) (tgt : Nat), decode (xC X) pc = .ok (.if_icmp .ge off, 3) → (pc : Int) + off = (tgt : Int) → (y ≤ x → J tgt ls st M) → (¬ y ≤ x → J (pc + 3) ls st M) → J pc ls (.inl y :: .inl x :: st) M
  | 40 => ∀ (pc : Nat) (ls : List (Option me_V)) (st : List me_V) (M : me_M) (x y : Int32) (off : Int) (tgt : Nat), decode (xC X) pc = .ok (.if_icmp .gt off, 3) → (pc : Int) + off = (tgt : Int) → (y < x → J tgt ls st M) → (¬ y < x → J (pc + 3) ls st M) → J pc ls (.inl y :: .inl x :: st) M
  | 41 => ∀ (pc : Nat) (ls : List (Option me_V)) (st : List me_V) (M : me_M) (x y : Int32) (off : Int) (tgt : Nat), decode (xC X) pc = .ok (.if_icmp .le off, 3) → (pc : Int) + off = (tgt : Int) → (x ≤ y → J tgt ls st M) → (¬ x ≤ y → J (pc + 3) ls st M) → J pc ls (.inl y :: .inl x :: st) M
  | 42 => ∀ (pc : Nat) (ls : List (Option me_V)) (st : List me_V) (M : me_M) (x y : Option Nat) (off : Int) (tgt : Nat), decode (xC X) pc = .ok (.if_acmp .eq off, 3) → (pc : Int) + off = (tgt : Int) → (x = y → J tgt ls st M) → (¬ x = y → J (pc + 3) ls st M) → J pc ls (.inr y :: .inr x :: st) M
  | 43 => ∀ (pc : Nat) (ls : List (Option me_V)) (st : List me_V) (M : me_M) (x y : Option Nat) (off : Int) (tgt : Nat), decode (xC X) pc = .ok (.if_acmp .ne off, 3) → (pc : Int) + off = (tgt : Int) → (¬ x = y → J tgt ls st M) → (x = y → J (pc + 3) ls st M) → J pc ls (.inr y :: .inr x :: st) M
  | 44 => ∀ (pc : Nat) (ls : List (Option me_V)) (st : List me_V) (M : me_M) (x : Option Nat) (off : Int) (tgt : Nat), decode (xC X) pc = .ok (.ifnull off, 3) → (pc : Int) + off = (tgt : Int) → (x = none → J tgt ls st M) → (¬ x = none → J (pc + 3) ls st M) → J pc ls (.inr x :: st) M
  | 45 => ∀ (pc : Nat) (ls : List (Option me_V)) (st : List me_V) (M : me_M) (x : Option Nat) (off : Int) (tgt : Nat), decode (xC X) pc = .ok (.ifnonnull off, 3) → (pc : Int) + off = (tgt : Int) → (¬ x = none → J tgt ls st M) → (x = none → J (pc + 3) ls st M) → J pc ls (.inr x :: st) M
  | 46 => ∀ (pc : Nat) (ls : List (Option me_V)) (st : List me_V) (M : me_M) (off : Int) (tgt : Nat), decode (xC X) pc = .ok (.goto off, 3) → (pc : Int) + off = (tgt : Int) → J tgt ls st M → J pc ls st M
  | 47 => ∀ (pc : Nat) (ls : List (Option me_V)) (st : List me_V) (M : me_M) (x : Int32) (dflt lo hi : Int) (offs : Array Int) (len : Nat) (off : Int) (tgt : Nat), decode (xC X) pc = .ok (.tableswitch dflt lo hi offs, len) → ¬ x.toInt < lo → ¬ hi < x.toInt → offs[(x.toInt - lo).toNat]? = some off → (pc : Int) + off = (tgt : Int) → J tgt ls st M → J pc ls (.inl x :: st) M
  | 48 => ∀ (pc : Nat) (ls : List (Option me_V)) (st : List me_V) (M : me_M) (x : Int32) (dflt lo hi : Int) (offs : Array Int) (len : Nat) (tgt : Nat), decode (xC X) pc = .ok (.tableswitch dflt lo hi offs, len) → x.toInt < lo ∨ hi < x.toInt → (pc : Int) + dflt = (tgt : Int) → J tgt ls st M → J pc ls (.inl x :: st) M
  | 49 => ∀ (pc : Nat) (ls : List (Option me_V)) (st : List me_V) (M : me_M) (x : Int32) (dflt : Int) (ps : Array (Int × Int)) (len : Nat) (off : Int) (tgt : Nat), decode (xC X) pc = .ok (.lookupswitch dflt ps, len) → (ps.toList.zip (ps.toList.drop 1)).all (fun (a, next) => a.1 < next.1) = true → Op.lookupswitch.offset ps.toList dflt x.toInt = off → (pc : Int) + off = (tgt : Int) → J tgt ls st M → J pc ls (.inl x :: st) M
  | 50 => ∀ (pc : Nat) (ls : List (Option me_V)) (st : List me_V) (M : me_M) (q idx ci k key ty : Nat), decode (xC X) pc = .ok (.getfield idx, 3) → xF X idx = some (ci, k, key, ty) → ¬ ty = 2 → mKd M q = ci + 1 → J (pc + 3) ls (.inl (mI M key q 0) :: st) M → J pc ls (.inr (some q) :: st) M
  | 51 => ∀ (pc : Nat) (ls : List (Option me_V)) (st : List me_V) (M : me_M) (q idx ci k key : Nat), decode (xC X) pc = .ok (.getfield idx, 3) → xF X idx = some (ci, k, key, 2) → mKd M q = ci + 1 → J (pc + 3) ls (.inr (mR M key q 0) :: st) M → J pc ls (.inr (some q) :: st) M
  | 52 => ∀ (pc : Nat) (ls : List (Option me_V)) (st : List me_V) (M : me_M) (q idx ci k key : Nat) (x : Int32), decode (xC X) pc = .ok (.putfield idx, 3) → xG X idx = some (ci, k, key, 0) → mKd M q = ci + 1 → J (pc + 3) ls st (mSetI M key q 0 x) → J pc ls (.inl x :: .inr (some q) :: st) M
  | 53 => ∀ (pc : Nat) (ls : List (Option me_V)) (st : List me_V) (M : me_M) (q idx ci k key : Nat) (x : Int32), decode (xC X) pc = .ok (.putfield idx, 3) → xG X idx = some (ci, k, key, 1) → mKd M q = ci + 1 → x = 0 ∨ x = 1 → J (pc + 3) ls st (mSetI M key q 0 x) → J pc ls (.inl x :: .inr (some q) :: st) M
  | 54 => ∀ (pc : Nat) (ls : List (Option me_V)) (st : List me_V) (M : me_M) (q idx ci k key : Nat) (x : Option Nat), decode (xC X) pc = .ok (.putfield idx, 3) → xG X idx = some (ci, k, key, 2) → mKd M q = ci + 1 → J (pc + 3) ls st (mSetR M key q 0 x) → J pc ls (.inr x :: .inr (some q) :: st) M
  | 55 => ∀ (pc : Nat) (ls : List (Option me_V)) (st : List me_V) (M : me_M) (idx ci n : Nat), decode (xC X) pc = .ok (.new idx, 3) → xN X idx = some (ci, n) → J (pc + 3) ls (.inr (some (mSz M)) :: st) (mNew M (ci + 1) 0 n) → J pc ls st M
  | 56 => ∀ (pc : Nat) (ls : List (Option me_V)) (st : List me_V) (M : me_M) (n : Int32), decode (xC X) pc = .ok (.newarray .int, 2) → xA X 70000 = some 100 → ¬ n < 0 → n.toNatClampNeg ≤ 100000 → J (pc + 2) ls (.inr (some (mSz M)) :: st) (mNew M 100 n.toNatClampNeg n.toNatClampNeg) → J pc ls (.inl n :: st) M
  | 57 => ∀ (pc : Nat) (ls : List (Option me_V)) (st : List me_V) (M : me_M) (n : Int32), decode (xC X) pc = .ok (.newarray .boolean, 2) → xA X 70001 = some 101 → ¬ n < 0 → n.toNatClampNeg ≤ 100000 → J (pc + 2) ls (.inr (some (mSz M)) :: st) (mNew M 101 n.toNatClampNeg n.toNatClampNeg) → J pc ls (.inl n :: st) M
  | 58 => ∀ (pc : Nat) (ls : List (Option me_V)) (st : List me_V) (M : me_M) (n : Int32) (idx a : Nat), decode (xC X) pc = .ok (.anewarray idx, 3) → xA X idx = some a → idx < 70000 → ¬ n < 0 → n.toNatClampNeg ≤ 100000 → J (pc + 3) ls (.inr (some (mSz M)) :: st) (mNew M a n.toNatClampNeg n.toNatClampNeg) → J pc ls (.inl n :: st) M
  | 59 => ∀ (pc : Nat) (ls : List (Option me_V)) (st : List me_V) (M : me_M) (q : Nat), decode (xC X) pc = .ok (.arraylength, 1) → 100 ≤ mKd M q → J (pc + 1) ls (.inl (Int32.ofNat (mLn M q)) :: st) M → J pc ls (.inr (some q) :: st) M
  | 60 => ∀ (pc : Nat) (ls : List (Option me_V)) (st : List me_V) (M : me_M) (q : Nat) (i : Int32), decode (xC X) pc = .ok (.iaload, 1) → mKd M q = 100 → vp_in i (mLn M q) → J (pc + 1) ls (.inl (mI M 100 q i.toNatClampNeg) :: st) M → J pc ls (.inl i :: .inr (some q) :: st) M
  | 61 => ∀ (pc : Nat) (ls : List (Option me_V)) (st : List me_V) (M : me_M) (q : Nat) (i x : Int32), decode (xC X) pc = .ok (.iastore, 1) → mKd M q = 100 → vp_in i (mLn M q) → J (pc + 1) ls st (mSetI M 100 q i.toNatClampNeg x) → J pc ls (.inl x :: .inl i :: .inr (some q) :: st) M
  | 62 => ∀ (pc : Nat) (ls : List (Option me_V)) (st : List me_V) (M : me_M) (q : Nat) (i : Int32), decode (xC X) pc = .ok (.baload, 1) → mKd M q = 101 → vp_in i (mLn M q) → J (pc + 1) ls (.inl (mI M 101 q i.toNatClampNeg) :: st) M → J pc ls (.inl i :: .inr (some q) :: st) M
  | 63 => ∀ (pc : Nat) (ls : List (Option me_V)) (st : List me_V) (M : me_M) (q : Nat) (i x : Int32), decode (xC X) pc = .ok (.bastore, 1) → mKd M q = 101 → vp_in i (mLn M q) → x = 0 ∨ x = 1 → J (pc + 1) ls st (mSetI M 101 q i.toNatClampNeg x) → J pc ls (.inl x :: .inl i :: .inr (some q) :: st) M
  | 64 => ∀ (pc : Nat) (ls : List (Option me_V)) (st : List me_V) (M : me_M) (q a : Nat) (i : Int32), decode (xC X) pc = .ok (.aaload, 1) → mKd M q = a → 102 ≤ a → vp_in i (mLn M q) → J (pc + 1) ls (.inr (mR M a q i.toNatClampNeg) :: st) M → J pc ls (.inl i :: .inr (some q) :: st) M
  | 65 => ∀ (pc : Nat) (ls : List (Option me_V)) (st : List me_V) (M : me_M) (q a w : Nat) (i : Int32), decode (xC X) pc = .ok (.aastore, 1) → mKd M q = a → 102 ≤ a → vp_in i (mLn M q) → mKd M w = me_el a → J (pc + 1) ls st (mSetR M a q i.toNatClampNeg (some w)) → J pc ls (.inr (some w) :: .inl i :: .inr (some q) :: st) M
  | 66 => ∀ (pc : Nat) (ls : List (Option me_V)) (st : List me_V) (M : me_M) (q a : Nat) (i : Int32), decode (xC X) pc = .ok (.aastore, 1) → mKd M q = a → 102 ≤ a → vp_in i (mLn M q) → J (pc + 1) ls st (mSetR M a q i.toNatClampNeg none) → J pc ls (.inr none :: .inl i :: .inr (some q) :: st) M
  | 67 => ∀ (pc : Nat) (ls : List (Option me_V)) (st : List me_V) (M : me_M) (as : List me_V) (r : Option me_V) (M1 : me_M), xCall X pc as M r M1 → st.length ≤ 8 → J (pc + 3) ls (r.toList ++ st) M1 → J pc ls (as.reverse ++ st) M
  | 68 => ∀ (pc : Nat) (ls : List (Option me_V)) (st : List me_V) (M : me_M) (q : Nat), decode (xC X) pc = .ok (.invokespecial (xO X), 3) → ¬ xO X = 0 → st.length ≤ 8 → J (pc + 3) ls st M → J pc ls (.inr (some q) :: st) M
  | 69 => ∀ (pc : Nat) (ls : List (Option me_V)) (st : List me_V) (M : me_M) (k : Nat) (ls2 : List (Option me_V)), ls.set k none = ls2 → J pc ls2 st M → J pc ls st M
  | 70 => ∀ (pc : Nat) (ls : List (Option me_V)) (st : List me_V) (M : me_M) (b L : Nat) (xs : Nat → Int32) (i : Int32), decode (xC X) pc = .ok (.iaload, 1) → xS X = some (b, L, xs) → vp_in i L → J (pc + 1) ls (.inl (xs i.toNatClampNeg) :: st) M → J pc ls (.inl i :: .inr (some b) :: st) M
  | 71 => ∀ (pc : Nat) (ls : List (Option me_V)) (st : List me_V) (M : me_M) (b L : Nat) (xs : Nat → Int32), decode (xC X) pc = .ok (.arraylength, 1) → xS X = some (b, L, xs) → J (pc + 1) ls (.inl (Int32.ofNat L) :: st) M → J pc ls (.inr (some b) :: st) M
  | 72 => ∀ (pc : Nat) (ls : List (Option me_V)) (x : Int32), decode (xC X) pc = .ok (.ireturn, 1) → xR X = 1 → v = some (.inl x) → J pc ls [.inl x] N
  | 73 => ∀ (pc : Nat) (ls : List (Option me_V)) (x : Int32), decode (xC X) pc = .ok (.ireturn, 1) → xR X = 2 → x = 0 ∨ x = 1 → v = some (.inl x) → J pc ls [.inl x] N
  | 74 => ∀ (pc : Nat) (ls : List (Option me_V)) (x : Option Nat), decode (xC X) pc = .ok (.areturn, 1) → xR X = 3 → v = some (.inr x) → J pc ls [.inr x] N
  | 75 => ∀ (pc : Nat) (ls : List (Option me_V)), decode (xC X) pc = .ok (.return_, 1) → xR X = 0 → v = none → J pc ls [] N
  | _ => True
def RUN (el : Nat → Nat) (X : me_X) (pc : Nat) (ls : List (Option me_V)) (st : List me_V) (M : me_M) (v : Option me_V) (N : me_M) : Prop := ∀ J : me_J, (∀ i, me_rule el X v N J i) → J pc ls st M
def EX (el : Nat → Nat) (X : me_X) (pc : Nat) (ls : List (Option me_V)) (st : List me_V) (M : me_M) (Q : Option me_V → me_M → Prop) : Prop := ∃ v N, RUN el X pc ls st M v N ∧ Q v N
theorem EX.mono {el : Nat → Nat} {X : me_X} {pc : Nat} {ls : List (Option me_V)} {st : List me_V} {M : me_M} {Q Q2 : Option me_V → me_M → Prop} (h : EX el X pc ls st M Q) (hq : ∀ v N, Q v N → Q2 v N) : EX el X pc ls st M Q2 := by
  obtain ⟨v, N, h1, h2⟩ := h
  exact ⟨v, N, h1, hq v N h2⟩
section EXR
variable {el : Nat → Nat} {X : me_X} {Q : Option me_V → me_M → Prop}
theorem ex_iconst {pc : Nat} {ls : List (Option me_V)} {st : List me_V} {M : me_M} {n : Int} {w : Int32} (d : decode (xC X) pc = .ok (.iconst n, 1)) (hw : Int32.ofInt n = w) (kk : EX el X (pc + 1) ls (.inl w :: st) M Q) : EX el X pc ls st M Q := by
  obtain ⟨v, N, h9, q9⟩ := kk
  exact ⟨v, N, fun J hJ => (hJ 0 : me_rule el X v N J 0) pc ls st M n w d hw (h9 J hJ), q9⟩
theorem ex_bipush {pc : Nat} {ls : List (Option me_V)} {st : List me_V} {M : me_M} {n : Int} {w : Int32} (d : decode (xC X) pc = .ok (.bipush n, 2)) (hw : (Int8.ofInt n).toInt32 = w) (kk : EX el X (pc + 2) ls (.inl w :: st) M Q) : EX el X pc ls st M Q := by
  obtain ⟨v, N, h9, q9⟩ := kk
  exact ⟨v, N, fun J hJ => (hJ 1 : me_rule el X v N J 1) pc ls st M n w d hw (h9 J hJ), q9⟩
theorem ex_sipush {pc : Nat} {ls : List (Option me_V)} {st : List me_V} {M : me_M} {n : Int} {w : Int32} (d : decode (xC X) pc = .ok (.sipush n, 3)) (hw : (Int16.ofInt n).toInt32 = w) (kk : EX el X (pc + 3) ls (.inl w :: st) M Q) : EX el X pc ls st M Q := by
  obtain ⟨v, N, h9, q9⟩ := kk
  exact ⟨v, N, fun J hJ => (hJ 2 : me_rule el X v N J 2) pc ls st M n w d hw (h9 J hJ), q9⟩
theorem ex_ldc {pc : Nat} {ls : List (Option me_V)} {st : List me_V} {M : me_M} {n : Nat} {w : Int32} (d : decode (xC X) pc = .ok (.ldc n, 2)) (hw : xK X n = some w) (kk : EX el X (pc + 2) ls (.inl w :: st) M Q) : EX el X pc ls st M Q := by
  obtain ⟨v, N, h9, q9⟩ := kk
  exact ⟨v, N, fun J hJ => (hJ 3 : me_rule el X v N J 3) pc ls st M n w d hw (h9 J hJ), q9⟩
theorem ex_null {pc : Nat} {ls : List (Option me_V)} {st : List me_V} {M : me_M} (d : decode (xC X) pc = .ok (.aconst_null, 1)) (kk : EX el X (pc + 1) ls (.inr none :: st) M Q) : EX el X pc ls st M Q := by
  obtain ⟨v, N, h9, q9⟩ := kk
  exact ⟨v, N, fun J hJ => (hJ 4 : me_rule el X v N J 4) pc ls st M d (h9 J hJ), q9⟩
theorem ex_iload_n {pc : Nat} {ls : List (Option me_V)} {st : List me_V} {M : me_M} {k : Fin 4} {x : Int32} (d : decode (xC X) pc = .ok (.iload_n k, 1)) (hl : ls[(k : Nat)]? = some (some (.inl x))) (kk : EX el X (pc + 1) ls (.inl x :: st) M Q) : EX el X pc ls st M Q := by
  obtain ⟨v, N, h9, q9⟩ := kk
  exact ⟨v, N, fun J hJ => (hJ 5 : me_rule el X v N J 5) pc ls st M k x d hl (h9 J hJ), q9⟩
theorem ex_iload {pc : Nat} {ls : List (Option me_V)} {st : List me_V} {M : me_M} {k : Nat} {x : Int32} (d : decode (xC X) pc = .ok (.iload k, 2)) (hl : ls[k]? = some (some (.inl x))) (kk : EX el X (pc + 2) ls (.inl x :: st) M Q) : EX el X pc ls st M Q := by
  obtain ⟨v, N, h9, q9⟩ := kk
  exact ⟨v, N, fun J hJ => (hJ 6 : me_rule el X v N J 6) pc ls st M k x d hl (h9 J hJ), q9⟩
theorem ex_aload_n {pc : Nat} {ls : List (Option me_V)} {st : List me_V} {M : me_M} {k : Fin 4} {x : Option Nat} (d : decode (xC X) pc = .ok (.aload_n k, 1)) (hl : ls[(k : Nat)]? = some (some (.inr x))) (kk : EX el X (pc + 1) ls (.inr x :: st) M Q) : EX el X pc ls st M Q := by
  obtain ⟨v, N, h9, q9⟩ := kk
  exact ⟨v, N, fun J hJ => (hJ 7 : me_rule el X v N J 7) pc ls st M k x d hl (h9 J hJ), q9⟩
theorem ex_aload {pc : Nat} {ls : List (Option me_V)} {st : List me_V} {M : me_M} {k : Nat} {x : Option Nat} (d : decode (xC X) pc = .ok (.aload k, 2)) (hl : ls[k]? = some (some (.inr x))) (kk : EX el X (pc + 2) ls (.inr x :: st) M Q) : EX el X pc ls st M Q := by
  obtain ⟨v, N, h9, q9⟩ := kk
  exact ⟨v, N, fun J hJ => (hJ 8 : me_rule el X v N J 8) pc ls st M k x d hl (h9 J hJ), q9⟩
theorem ex_istore_n {pc : Nat} {ls : List (Option me_V)} {st : List me_V} {M : me_M} {k : Fin 4} {x : Int32} {ls2 : List (Option me_V)} (d : decode (xC X) pc = .ok (.istore_n k, 1)) (hk : (k : Nat) < ls.length) (hs : ls.set (k : Nat) (some (.inl x)) = ls2) (kk : EX el X (pc + 1) ls2 st M Q) : EX el X pc ls (.inl x :: st) M Q := by
  obtain ⟨v, N, h9, q9⟩ := kk
  exact ⟨v, N, fun J hJ => (hJ 9 : me_rule el X v N J 9) pc ls st M k x ls2 d hk hs (h9 J hJ), q9⟩
theorem ex_istore {pc : Nat} {ls : List (Option me_V)} {st : List me_V} {M : me_M} {k : Nat} {x : Int32} {ls2 : List (Option me_V)} (d : decode (xC X) pc = .ok (.istore k, 2)) (hk : k < ls.length) (hs : ls.set k (some (.inl x)) = ls2) (kk : EX el X (pc + 2) ls2 st M Q) : EX el X pc ls (.inl x :: st) M Q := by
  obtain ⟨v, N, h9, q9⟩ := kk
  exact ⟨v, N, fun J hJ => (hJ 10 : me_rule el X v N J 10) pc ls st M k x ls2 d hk hs (h9 J hJ), q9⟩
theorem ex_astore_n {pc : Nat} {ls : List (Option me_V)} {st : List me_V} {M : me_M} {k : Fin 4} {x : Option Nat} {ls2 : List (Option me_V)} (d : decode (xC X) pc = .ok (.astore_n k, 1)) (hk : (k : Nat) < ls.length) (hs : ls.set (k : Nat) (some (.inr x)) = ls2) (kk : EX el X (pc + 1) ls2 st M Q) : EX el X pc ls (.inr x :: st) M Q := by
  obtain ⟨v, N, h9, q9⟩ := kk
  exact ⟨v, N, fun J hJ => (hJ 11 : me_rule el X v N J 11) pc ls st M k x ls2 d hk hs (h9 J hJ), q9⟩
theorem ex_astore {pc : Nat} {ls : List (Option me_V)} {st : List me_V} {M : me_M} {k : Nat} {x : Option Nat} {ls2 : List (Option me_V)} (d : decode (xC X) pc = .ok (.astore k, 2)) (hk : k < ls.length) (hs : ls.set k (some (.inr x)) = ls2) (kk : EX el X (pc + 2) ls2 st M Q) : EX el X pc ls (.inr x :: st) M Q := by
  obtain ⟨v, N, h9, q9⟩ := kk
  exact ⟨v, N, fun J hJ => (hJ 12 : me_rule el X v N J 12) pc ls st M k x ls2 d hk hs (h9 J hJ), q9⟩
theorem ex_iinc {pc : Nat} {ls : List (Option me_V)} {st : List me_V} {M : me_M} {k : Nat} {n : Int} {x : Int32} {ls2 : List (Option me_V)} (d : decode (xC X) pc = .ok (.iinc k n, 3)) (hl : ls[k]? = some (some (.inl x))) (hs : ls.set k (some (.inl (x + Int32.ofInt n))) = ls2) (kk : EX el X (pc + 3) ls2 st M Q) : EX el X pc ls st M Q := by
  obtain ⟨v, N, h9, q9⟩ := kk
  exact ⟨v, N, fun J hJ => (hJ 13 : me_rule el X v N J 13) pc ls st M k n x ls2 d hl hs (h9 J hJ), q9⟩
theorem ex_iadd {pc : Nat} {ls : List (Option me_V)} {st : List me_V} {M : me_M} {x y : Int32} (d : decode (xC X) pc = .ok (.iadd, 1)) (kk : EX el X (pc + 1) ls (.inl (x + y) :: st) M Q) : EX el X pc ls (.inl y :: .inl x :: st) M Q := by
  obtain ⟨v, N, h9, q9⟩ := kk
  exact ⟨v, N, fun J hJ => (hJ 14 : me_rule el X v N J 14) pc ls st M x y d (h9 J hJ), q9⟩
theorem ex_isub {pc : Nat} {ls : List (Option me_V)} {st : List me_V} {M : me_M} {x y : Int32} (d : decode (xC X) pc = .ok (.isub, 1)) (kk : EX el X (pc + 1) ls (.inl (x - y) :: st) M Q) : EX el X pc ls (.inl y :: .inl x :: st) M Q := by
  obtain ⟨v, N, h9, q9⟩ := kk
  exact ⟨v, N, fun J hJ => (hJ 15 : me_rule el X v N J 15) pc ls st M x y d (h9 J hJ), q9⟩
theorem ex_imul {pc : Nat} {ls : List (Option me_V)} {st : List me_V} {M : me_M} {x y : Int32} (d : decode (xC X) pc = .ok (.imul, 1)) (kk : EX el X (pc + 1) ls (.inl (x * y) :: st) M Q) : EX el X pc ls (.inl y :: .inl x :: st) M Q := by
  obtain ⟨v, N, h9, q9⟩ := kk
  exact ⟨v, N, fun J hJ => (hJ 16 : me_rule el X v N J 16) pc ls st M x y d (h9 J hJ), q9⟩
theorem ex_iand {pc : Nat} {ls : List (Option me_V)} {st : List me_V} {M : me_M} {x y : Int32} (d : decode (xC X) pc = .ok (.iand, 1)) (kk : EX el X (pc + 1) ls (.inl (x &&& y) :: st) M Q) : EX el X pc ls (.inl y :: .inl x :: st) M Q := by
  obtain ⟨v, N, h9, q9⟩ := kk
  exact ⟨v, N, fun J hJ => (hJ 17 : me_rule el X v N J 17) pc ls st M x y d (h9 J hJ), q9⟩
theorem ex_ior {pc : Nat} {ls : List (Option me_V)} {st : List me_V} {M : me_M} {x y : Int32} (d : decode (xC X) pc = .ok (.ior, 1)) (kk : EX el X (pc + 1) ls (.inl (x ||| y) :: st) M Q) : EX el X pc ls (.inl y :: .inl x :: st) M Q := by
  obtain ⟨v, N, h9, q9⟩ := kk
  exact ⟨v, N, fun J hJ => (hJ 18 : me_rule el X v N J 18) pc ls st M x y d (h9 J hJ), q9⟩
theorem ex_ixor {pc : Nat} {ls : List (Option me_V)} {st : List me_V} {M : me_M} {x y : Int32} (d : decode (xC X) pc = .ok (.ixor, 1)) (kk : EX el X (pc + 1) ls (.inl (x ^^^ y) :: st) M Q) : EX el X pc ls (.inl y :: .inl x :: st) M Q := by
  obtain ⟨v, N, h9, q9⟩ := kk
  exact ⟨v, N, fun J hJ => (hJ 19 : me_rule el X v N J 19) pc ls st M x y d (h9 J hJ), q9⟩
theorem ex_ishl {pc : Nat} {ls : List (Option me_V)} {st : List me_V} {M : me_M} {x y : Int32} (d : decode (xC X) pc = .ok (.ishl, 1)) (kk : EX el X (pc + 1) ls (.inl (x <<< (y &&& 31)) :: st) M Q) : EX el X pc ls (.inl y :: .inl x :: st) M Q := by
  obtain ⟨v, N, h9, q9⟩ := kk
  exact ⟨v, N, fun J hJ => (hJ 20 : me_rule el X v N J 20) pc ls st M x y d (h9 J hJ), q9⟩
theorem ex_ishr {pc : Nat} {ls : List (Option me_V)} {st : List me_V} {M : me_M} {x y : Int32} (d : decode (xC X) pc = .ok (.ishr, 1)) (kk : EX el X (pc + 1) ls (.inl (x >>> (y &&& 31)) :: st) M Q) : EX el X pc ls (.inl y :: .inl x :: st) M Q := by
  obtain ⟨v, N, h9, q9⟩ := kk
  exact ⟨v, N, fun J hJ => (hJ 21 : me_rule el X v N J 21) pc ls st M x y d (h9 J hJ), q9⟩
theorem ex_idiv {pc : Nat} {ls : List (Option me_V)} {st : List me_V} {M : me_M} {x y : Int32} (d : decode (xC X) pc = .ok (.idiv, 1)) (hy : ¬ y = 0) (kk : EX el X (pc + 1) ls (.inl (x / y) :: st) M Q) : EX el X pc ls (.inl y :: .inl x :: st) M Q := by
  obtain ⟨v, N, h9, q9⟩ := kk
  exact ⟨v, N, fun J hJ => (hJ 22 : me_rule el X v N J 22) pc ls st M x y d hy (h9 J hJ), q9⟩
theorem ex_irem {pc : Nat} {ls : List (Option me_V)} {st : List me_V} {M : me_M} {x y : Int32} (d : decode (xC X) pc = .ok (.irem, 1)) (hy : ¬ y = 0) (kk : EX el X (pc + 1) ls (.inl (x - x / y * y) :: st) M Q) : EX el X pc ls (.inl y :: .inl x :: st) M Q := by
  obtain ⟨v, N, h9, q9⟩ := kk
  exact ⟨v, N, fun J hJ => (hJ 23 : me_rule el X v N J 23) pc ls st M x y d hy (h9 J hJ), q9⟩
theorem ex_ineg {pc : Nat} {ls : List (Option me_V)} {st : List me_V} {M : me_M} {x : Int32} (d : decode (xC X) pc = .ok (.ineg, 1)) (kk : EX el X (pc + 1) ls (.inl (-x) :: st) M Q) : EX el X pc ls (.inl x :: st) M Q := by
  obtain ⟨v, N, h9, q9⟩ := kk
  exact ⟨v, N, fun J hJ => (hJ 24 : me_rule el X v N J 24) pc ls st M x d (h9 J hJ), q9⟩
theorem ex_dup {pc : Nat} {ls : List (Option me_V)} {st : List me_V} {M : me_M} {x : me_V} (d : decode (xC X) pc = .ok (.dup, 1)) (kk : EX el X (pc + 1) ls (x :: x :: st) M Q) : EX el X pc ls (x :: st) M Q := by
  obtain ⟨v, N, h9, q9⟩ := kk
  exact ⟨v, N, fun J hJ => (hJ 25 : me_rule el X v N J 25) pc ls st M x d (h9 J hJ), q9⟩
theorem ex_pop {pc : Nat} {ls : List (Option me_V)} {st : List me_V} {M : me_M} {x : me_V} (d : decode (xC X) pc = .ok (.pop, 1)) (kk : EX el X (pc + 1) ls st M Q) : EX el X pc ls (x :: st) M Q := by
  obtain ⟨v, N, h9, q9⟩ := kk
  exact ⟨v, N, fun J hJ => (hJ 26 : me_rule el X v N J 26) pc ls st M x d (h9 J hJ), q9⟩
theorem ex_dup_x1 {pc : Nat} {ls : List (Option me_V)} {st : List me_V} {M : me_M} {x y : me_V} (d : decode (xC X) pc = .ok (.dup_x1, 1)) (kk : EX el X (pc + 1) ls (x :: y :: x :: st) M Q) : EX el X pc ls (x :: y :: st) M Q := by
  obtain ⟨v, N, h9, q9⟩ := kk
  exact ⟨v, N, fun J hJ => (hJ 27 : me_rule el X v N J 27) pc ls st M x y d (h9 J hJ), q9⟩
theorem ex_dup_x2 {pc : Nat} {ls : List (Option me_V)} {st : List me_V} {M : me_M} {x y z : me_V} (d : decode (xC X) pc = .ok (.dup_x2, 1)) (kk : EX el X (pc + 1) ls (x :: y :: z :: x :: st) M Q) : EX el X pc ls (x :: y :: z :: st) M Q := by
  obtain ⟨v, N, h9, q9⟩ := kk
  exact ⟨v, N, fun J hJ => (hJ 28 : me_rule el X v N J 28) pc ls st M x y z d (h9 J hJ), q9⟩
theorem ex_dup2 {pc : Nat} {ls : List (Option me_V)} {st : List me_V} {M : me_M} {x y : me_V} (d : decode (xC X) pc = .ok (.dup2, 1)) (kk : EX el X (pc + 1) ls (x :: y :: x :: y :: st) M Q) : EX el X pc ls (x :: y :: st) M Q := by
  obtain ⟨v, N, h9, q9⟩ := kk
  exact ⟨v, N, fun J hJ => (hJ 29 : me_rule el X v N J 29) pc ls st M x y d (h9 J hJ), q9⟩
theorem ex_if_eq {pc : Nat} {ls : List (Option me_V)} {st : List me_V} {M : me_M} {x : Int32} {off : Int} {tgt : Nat} (d : decode (xC X) pc = .ok (.ifCond .eq off, 3)) (ht : (pc : Int) + off = (tgt : Int)) (kt : x = 0 → EX el X tgt ls st M Q) (kf : ¬ x = 0 → EX el X (pc + 3) ls st M Q) : EX el X pc ls (.inl x :: st) M Q := by
  by_cases hg : x = 0
  · obtain ⟨v, N, h9, q9⟩ := kt hg
    exact ⟨v, N, fun J hJ => (hJ 30 : me_rule el X v N J 30) pc ls st M x off tgt d ht (fun _ => h9 J hJ) (fun z => absurd hg z), q9⟩
  · obtain ⟨v, N, h9, q9⟩ := kf hg
    exact ⟨v, N, fun J hJ => (hJ 30 : me_rule el X v N J 30) pc ls st M x off tgt d ht (fun z => absurd z hg) (fun _ => h9 J hJ), q9⟩
theorem ex_if_ne {pc : Nat} {ls : List (Option me_V)} {st : List me_V} {M : me_M} {x : Int32} {off : Int} {tgt : Nat} (d : decode (xC X) pc = .ok (.ifCond .ne off, 3)) (ht : (pc : Int) + off = (tgt : Int)) (kt : ¬ x = 0 → EX el X tgt ls st M Q) (kf : x = 0 → EX el X (pc + 3) ls st M Q) : EX el X pc ls (.inl x :: st) M Q := by
  by_cases hg : x = 0
  · obtain ⟨v, N, h9, q9⟩ := kf hg
    exact ⟨v, N, fun J hJ => (hJ 31 : me_rule el X v N J 31) pc ls st M x off tgt d ht (fun z => absurd hg z) (fun _ => h9 J hJ), q9⟩
  · obtain ⟨v, N, h9, q9⟩ := kt hg
    exact ⟨v, N, fun J hJ => (hJ 31 : me_rule el X v N J 31) pc ls st M x off tgt d ht (fun _ => h9 J hJ) (fun z => absurd z hg), q9⟩
theorem ex_if_lt {pc : Nat} {ls : List (Option me_V)} {st : List me_V} {M : me_M} {x : Int32} {off : Int} {tgt : Nat} (d : decode (xC X) pc = .ok (.ifCond .lt off, 3)) (ht : (pc : Int) + off = (tgt : Int)) (kt : x < 0 → EX el X tgt ls st M Q) (kf : ¬ x < 0 → EX el X (pc + 3) ls st M Q) : EX el X pc ls (.inl x :: st) M Q := by
  by_cases hg : x < 0
  · obtain ⟨v, N, h9, q9⟩ := kt hg
    exact ⟨v, N, fun J hJ => (hJ 32 : me_rule el X v N J 32) pc ls st M x off tgt d ht (fun _ => h9 J hJ) (fun z => absurd hg z), q9⟩
  · obtain ⟨v, N, h9, q9⟩ := kf hg
    exact ⟨v, N, fun J hJ => (hJ 32 : me_rule el X v N J 32) pc ls st M x off tgt d ht (fun z => absurd z hg) (fun _ => h9 J hJ), q9⟩
theorem ex_if_ge {pc : Nat} {ls : List (Option me_V)} {st : List me_V} {M : me_M} {x : Int32} {off : Int} {tgt : Nat} (d : decode (xC X) pc = .ok (.ifCond .ge off, 3)) (ht : (pc : Int) + off = (tgt : Int)) (kt : 0 ≤ x → EX el X tgt ls st M Q) (kf : ¬ 0 ≤ x → EX el X (pc + 3) ls st M Q) : EX el X pc ls (.inl x :: st) M Q := by
  by_cases hg : 0 ≤ x
  · obtain ⟨v, N, h9, q9⟩ := kt hg
    exact ⟨v, N, fun J hJ => (hJ 33 : me_rule el X v N J 33) pc ls st M x off tgt d ht (fun _ => h9 J hJ) (fun z => absurd hg z), q9⟩
  · obtain ⟨v, N, h9, q9⟩ := kf hg
    exact ⟨v, N, fun J hJ => (hJ 33 : me_rule el X v N J 33) pc ls st M x off tgt d ht (fun z => absurd z hg) (fun _ => h9 J hJ), q9⟩
theorem ex_if_gt {pc : Nat} {ls : List (Option me_V)} {st : List me_V} {M : me_M} {x : Int32} {off : Int} {tgt : Nat} (d : decode (xC X) pc = .ok (.ifCond .gt off, 3)) (ht : (pc : Int) + off = (tgt : Int)) (kt : 0 < x → EX el X tgt ls st M Q) (kf : ¬ 0 < x → EX el X (pc + 3) ls st M Q) : EX el X pc ls (.inl x :: st) M Q := by
  by_cases hg : 0 < x
  · obtain ⟨v, N, h9, q9⟩ := kt hg
    exact ⟨v, N, fun J hJ => (hJ 34 : me_rule el X v N J 34) pc ls st M x off tgt d ht (fun _ => h9 J hJ) (fun z => absurd hg z), q9⟩
  · obtain ⟨v, N, h9, q9⟩ := kf hg
    exact ⟨v, N, fun J hJ => (hJ 34 : me_rule el X v N J 34) pc ls st M x off tgt d ht (fun z => absurd z hg) (fun _ => h9 J hJ), q9⟩
theorem ex_if_le {pc : Nat} {ls : List (Option me_V)} {st : List me_V} {M : me_M} {x : Int32} {off : Int} {tgt : Nat} (d : decode (xC X) pc = .ok (.ifCond .le off, 3)) (ht : (pc : Int) + off = (tgt : Int)) (kt : x ≤ 0 → EX el X tgt ls st M Q) (kf : ¬ x ≤ 0 → EX el X (pc + 3) ls st M Q) : EX el X pc ls (.inl x :: st) M Q := by
  by_cases hg : x ≤ 0
  · obtain ⟨v, N, h9, q9⟩ := kt hg
    exact ⟨v, N, fun J hJ => (hJ 35 : me_rule el X v N J 35) pc ls st M x off tgt d ht (fun _ => h9 J hJ) (fun z => absurd hg z), q9⟩
  · obtain ⟨v, N, h9, q9⟩ := kf hg
    exact ⟨v, N, fun J hJ => (hJ 35 : me_rule el X v N J 35) pc ls st M x off tgt d ht (fun z => absurd z hg) (fun _ => h9 J hJ), q9⟩
theorem ex_icmp_eq {pc : Nat} {ls : List (Option me_V)} {st : List me_V} {M : me_M} {x y : Int32} {off : Int} {tgt : Nat} (d : decode (xC X) pc = .ok (.if_icmp .eq off, 3)) (ht : (pc : Int) + off = (tgt : Int)) (kt : x = y → EX el X tgt ls st M Q) (kf : ¬ x = y → EX el X (pc + 3) ls st M Q) : EX el X pc ls (.inl y :: .inl x :: st) M Q := by
  by_cases hg : x = y
  · obtain ⟨v, N, h9, q9⟩ := kt hg
    exact ⟨v, N, fun J hJ => (hJ 36 : me_rule el X v N J 36) pc ls st M x y off tgt d ht (fun _ => h9 J hJ) (fun z => absurd hg z), q9⟩
  · obtain ⟨v, N, h9, q9⟩ := kf hg
    exact ⟨v, N, fun J hJ => (hJ 36 : me_rule el X v N J 36) pc ls st M x y off tgt d ht (fun z => absurd z hg) (fun _ => h9 J hJ), q9⟩
theorem ex_icmp_ne {pc : Nat} {ls : List (Option me_V)} {st : List me_V} {M : me_M} {x y : Int32} {off : Int} {tgt : Nat} (d : decode (xC X) pc = .ok (.if_icmp .ne off, 3)) (ht : (pc : Int) + off = (tgt : Int)) (kt : ¬ x = y → EX el X tgt ls st M Q) (kf : x = y → EX el X (pc + 3) ls st M Q) : EX el X pc ls (.inl y :: .inl x :: st) M Q := by
  by_cases hg : x = y
  · obtain ⟨v, N, h9, q9⟩ := kf hg
    exact ⟨v, N, fun J hJ => (hJ 37 : me_rule el X v N J 37) pc ls st M x y off tgt d ht (fun z => absurd hg z) (fun _ => h9 J hJ), q9⟩
  · obtain ⟨v, N, h9, q9⟩ := kt hg
    exact ⟨v, N, fun J hJ => (hJ 37 : me_rule el X v N J 37) pc ls st M x y off tgt d ht (fun _ => h9 J hJ) (fun z => absurd z hg), q9⟩
theorem ex_icmp_lt {pc : Nat} {ls : List (Option me_V)} {st : List me_V} {M : me_M} {x y : Int32} {off : Int} {tgt : Nat} (d : decode (xC X) pc = .ok (.if_icmp .lt off, 3)) (ht : (pc : Int) + off = (tgt : Int)) (kt : x < y → EX el X tgt ls st M Q) (kf : ¬ x < y → EX el X (pc + 3) ls st M Q) : EX el X pc ls (.inl y :: .inl x :: st) M Q := by
  by_cases hg : x < y
  · obtain ⟨v, N, h9, q9⟩ := kt hg
    exact ⟨v, N, fun J hJ => (hJ 38 : me_rule el X v N J 38) pc ls st M x y off tgt d ht (fun _ => h9 J hJ) (fun z => absurd hg z), q9⟩
  · obtain ⟨v, N, h9, q9⟩ := kf hg
    exact ⟨v, N, fun J hJ => (hJ 38 : me_rule el X v N J 38) pc ls st M x y off tgt d ht (fun z => absurd z hg) (fun _ => h9 J hJ), q9⟩
theorem ex_icmp_ge {pc : Nat} {ls : List (Option me_V)} {st : List me_V} {M : me_M} {x y : Int32} {off : Int} {tgt : Nat} (d : decode (xC X) pc = .ok (.if_icmp .ge off, 3)) (ht : (pc : Int) + off = (tgt : Int)) (kt : y ≤ x → EX el X tgt ls st M Q) (kf : ¬ y ≤ x → EX el X (pc + 3) ls st M Q) : EX el X pc ls (.inl y :: .inl x :: st) M Q := by
  by_cases hg : y ≤ x
  · obtain ⟨v, N, h9, q9⟩ := kt hg
    exact ⟨v, N, fun J hJ => (hJ 39 : me_rule el X v N J 39) pc ls st M x y off tgt d ht (fun _ => h9 J hJ) (fun z => absurd hg z), q9⟩
  · obtain ⟨v, N, h9, q9⟩ := kf hg
    exact ⟨v, N, fun J hJ => (hJ 39 : me_rule el X v N J 39) pc ls st M x y off tgt d ht (fun z => absurd z hg) (fun _ => h9 J hJ), q9⟩
theorem ex_icmp_gt {pc : Nat} {ls : List (Option me_V)} {st : List me_V} {M : me_M} {x y : Int32} {off : Int} {tgt : Nat} (d : decode (xC X) pc = .ok (.if_icmp .gt off, 3)) (ht : (pc : Int) + off = (tgt : Int)) (kt : y < x → EX el X tgt ls st M Q) (kf : ¬ y < x → EX el X (pc + 3) ls st M Q) : EX el X pc ls (.inl y :: .inl x :: st) M Q := by
  by_cases hg : y < x
  · obtain ⟨v, N, h9, q9⟩ := kt hg
    exact ⟨v, N, fun J hJ => (hJ 40 : me_rule el X v N J 40) pc ls st M x y off tgt d ht (fun _ => h9 J hJ) (fun z => absurd hg z), q9⟩
  · obtain ⟨v, N, h9, q9⟩ := kf hg
    exact ⟨v, N, fun J hJ => (hJ 40 : me_rule el X v N J 40) pc ls st M x y off tgt d ht (fun z => absurd z hg) (fun _ => h9 J hJ), q9⟩
theorem ex_icmp_le {pc : Nat} {ls : List (Option me_V)} {st : List me_V} {M : me_M} {x y : Int32} {off : Int} {tgt : Nat} (d : decode (xC X) pc = .ok (.if_icmp .le off, 3)) (ht : (pc : Int) + off = (tgt : Int)) (kt : x ≤ y → EX el X tgt ls st M Q) (kf : ¬ x ≤ y → EX el X (pc + 3) ls st M Q) : EX el X pc ls (.inl y :: .inl x :: st) M Q := by
  by_cases hg : x ≤ y
  · obtain ⟨v, N, h9, q9⟩ := kt hg
    exact ⟨v, N, fun J hJ => (hJ 41 : me_rule el X v N J 41) pc ls st M x y off tgt d ht (fun _ => h9 J hJ) (fun z => absurd hg z), q9⟩
  · obtain ⟨v, N, h9, q9⟩ := kf hg
    exact ⟨v, N, fun J hJ => (hJ 41 : me_rule el X v N J 41) pc ls st M x y off tgt d ht (fun z => absurd z hg) (fun _ => h9 J hJ), q9⟩
theorem ex_acmp_eq {pc : Nat} {ls : List (Option me_V)} {st : List me_V} {M : me_M} {x y : Option Nat} {off : Int} {tgt : Nat} (d : decode (xC X) pc = .ok (.if_acmp .eq off, 3)) (ht : (pc : Int) + off = (tgt : Int)) (kt : x = y → EX el X tgt ls st M Q) (kf : ¬ x = y → EX el X (pc + 3) ls st M Q) : EX el X pc ls (.inr y :: .inr x :: st) M Q := by
  by_cases hg : x = y
  · obtain ⟨v, N, h9, q9⟩ := kt hg
    exact ⟨v, N, fun J hJ => (hJ 42 : me_rule el X v N J 42) pc ls st M x y off tgt d ht (fun _ => h9 J hJ) (fun z => absurd hg z), q9⟩
  · obtain ⟨v, N, h9, q9⟩ := kf hg
    exact ⟨v, N, fun J hJ => (hJ 42 : me_rule el X v N J 42) pc ls st M x y off tgt d ht (fun z => absurd z hg) (fun _ => h9 J hJ), q9⟩
theorem ex_acmp_ne {pc : Nat} {ls : List (Option me_V)} {st : List me_V} {M : me_M} {x y : Option Nat} {off : Int} {tgt : Nat} (d : decode (xC X) pc = .ok (.if_acmp .ne off, 3)) (ht : (pc : Int) + off = (tgt : Int)) (kt : ¬ x = y → EX el X tgt ls st M Q) (kf : x = y → EX el X (pc + 3) ls st M Q) : EX el X pc ls (.inr y :: .inr x :: st) M Q := by
  by_cases hg : x = y
  · obtain ⟨v, N, h9, q9⟩ := kf hg
    exact ⟨v, N, fun J hJ => (hJ 43 : me_rule el X v N J 43) pc ls st M x y off tgt d ht (fun z => absurd hg z) (fun _ => h9 J hJ), q9⟩
  · obtain ⟨v, N, h9, q9⟩ := kt hg
    exact ⟨v, N, fun J hJ => (hJ 43 : me_rule el X v N J 43) pc ls st M x y off tgt d ht (fun _ => h9 J hJ) (fun z => absurd z hg), q9⟩
theorem ex_ifnull {pc : Nat} {ls : List (Option me_V)} {st : List me_V} {M : me_M} {x : Option Nat} {off : Int} {tgt : Nat} (d : decode (xC X) pc = .ok (.ifnull off, 3)) (ht : (pc : Int) + off = (tgt : Int)) (kt : x = none → EX el X tgt ls st M Q) (kf : ¬ x = none → EX el X (pc + 3) ls st M Q) : EX el X pc ls (.inr x :: st) M Q := by
  by_cases hg : x = none
  · obtain ⟨v, N, h9, q9⟩ := kt hg
    exact ⟨v, N, fun J hJ => (hJ 44 : me_rule el X v N J 44) pc ls st M x off tgt d ht (fun _ => h9 J hJ) (fun z => absurd hg z), q9⟩
  · obtain ⟨v, N, h9, q9⟩ := kf hg
    exact ⟨v, N, fun J hJ => (hJ 44 : me_rule el X v N J 44) pc ls st M x off tgt d ht (fun z => absurd z hg) (fun _ => h9 J hJ), q9⟩
theorem ex_ifnonnull {pc : Nat} {ls : List (Option me_V)} {st : List me_V} {M : me_M} {x : Option Nat} {off : Int} {tgt : Nat} (d : decode (xC X) pc = .ok (.ifnonnull off, 3)) (ht : (pc : Int) + off = (tgt : Int)) (kt : ¬ x = none → EX el X tgt ls st M Q) (kf : x = none → EX el X (pc + 3) ls st M Q) : EX el X pc ls (.inr x :: st) M Q := by
  by_cases hg : x = none
  · obtain ⟨v, N, h9, q9⟩ := kf hg
    exact ⟨v, N, fun J hJ => (hJ 45 : me_rule el X v N J 45) pc ls st M x off tgt d ht (fun z => absurd hg z) (fun _ => h9 J hJ), q9⟩
  · obtain ⟨v, N, h9, q9⟩ := kt hg
    exact ⟨v, N, fun J hJ => (hJ 45 : me_rule el X v N J 45) pc ls st M x off tgt d ht (fun _ => h9 J hJ) (fun z => absurd z hg), q9⟩
theorem ex_goto {pc : Nat} {ls : List (Option me_V)} {st : List me_V} {M : me_M} {off : Int} {tgt : Nat} (d : decode (xC X) pc = .ok (.goto off, 3)) (ht : (pc : Int) + off = (tgt : Int)) (kk : EX el X tgt ls st M Q) : EX el X pc ls st M Q := by
  obtain ⟨v, N, h9, q9⟩ := kk
  exact ⟨v, N, fun J hJ => (hJ 46 : me_rule el X v N J 46) pc ls st M off tgt d ht (h9 J hJ), q9⟩
theorem ex_tabIn {pc : Nat} {ls : List (Option me_V)} {st : List me_V} {M : me_M} {x : Int32} {dflt lo hi : Int} {offs : Array Int} {len : Nat} {off : Int} {tgt : Nat} (d : decode (xC X) pc = .ok (.tableswitch dflt lo hi offs, len)) (h1 : ¬ x.toInt < lo) (h2 : ¬ hi < x.toInt) (ho : offs[(x.toInt - lo).toNat]? = some off) (ht : (pc : Int) + off = (tgt : Int)) (kk : EX el X tgt ls st M Q) : EX el X pc ls (.inl x :: st) M Q := by
  obtain ⟨v, N, h9, q9⟩ := kk
  exact ⟨v, N, fun J hJ => (hJ 47 : me_rule el X v N J 47) pc ls st M x dflt lo hi offs len off tgt d h1 h2 ho ht (h9 J hJ), q9⟩
theorem ex_tabOut {pc : Nat} {ls : List (Option me_V)} {st : List me_V} {M : me_M} {x : Int32} {dflt lo hi : Int} {offs : Array Int} {len : Nat} {tgt : Nat} (d : decode (xC X) pc = .ok (.tableswitch dflt lo hi offs, len)) (h : x.toInt < lo ∨ hi < x.toInt) (ht : (pc : Int) + dflt = (tgt : Int)) (kk : EX el X tgt ls st M Q) : EX el X pc ls (.inl x :: st) M Q := by
  obtain ⟨v, N, h9, q9⟩ := kk
  exact ⟨v, N, fun J hJ => (hJ 48 : me_rule el X v N J 48) pc ls st M x dflt lo hi offs len tgt d h ht (h9 J hJ), q9⟩
theorem ex_lookup {pc : Nat} {ls : List (Option me_V)} {st : List me_V} {M : me_M} {x : Int32} {dflt : Int} {ps : Array (Int × Int)} {len : Nat} {off : Int} {tgt : Nat} (d : decode (xC X) pc = .ok (.lookupswitch dflt ps, len)) (hp : (ps.toList.zip (ps.toList.drop 1)).all (fun (a, next) => a.1 < next.1) = true) (ho : Op.lookupswitch.offset ps.toList dflt x.toInt = off) (ht : (pc : Int) + off = (tgt : Int)) (kk : EX el X tgt ls st M Q) : EX el X pc ls (.inl x :: st) M Q := by
  obtain ⟨v, N, h9, q9⟩ := kk
  exact ⟨v, N, fun J hJ => (hJ 49 : me_rule el X v N J 49) pc ls st M x dflt ps len off tgt d hp ho ht (h9 J hJ), q9⟩
theorem ex_getI {pc : Nat} {ls : List (Option me_V)} {st : List me_V} {M : me_M} {q idx ci k key ty : Nat} {x0 : Option Nat} (d : decode (xC X) pc = .ok (.getfield idx, 3)) (hr : x0 = some q) (hf : xF X idx = some (ci, k, key, ty)) (ht : ¬ ty = 2) (hk : mKd M q = ci + 1) (kk : EX el X (pc + 3) ls (.inl (mI M key q 0) :: st) M Q) : EX el X pc ls (.inr x0 :: st) M Q := by
  subst hr
  obtain ⟨v, N, h9, q9⟩ := kk
  exact ⟨v, N, fun J hJ => (hJ 50 : me_rule el X v N J 50) pc ls st M q idx ci k key ty d hf ht hk (h9 J hJ), q9⟩
theorem ex_getR {pc : Nat} {ls : List (Option me_V)} {st : List me_V} {M : me_M} {q idx ci k key : Nat} {x0 : Option Nat} (d : decode (xC X) pc = .ok (.getfield idx, 3)) (hr : x0 = some q) (hf : xF X idx = some (ci, k, key, 2)) (hk : mKd M q = ci + 1) (kk : EX el X (pc + 3) ls (.inr (mR M key q 0) :: st) M Q) : EX el X pc ls (.inr x0 :: st) M Q := by
  subst hr
  obtain ⟨v, N, h9, q9⟩ := kk
  exact ⟨v, N, fun J hJ => (hJ 51 : me_rule el X v N J 51) pc ls st M q idx ci k key d hf hk (h9 J hJ), q9⟩
theorem ex_putI {pc : Nat} {ls : List (Option me_V)} {st : List me_V} {M : me_M} {q idx ci k key : Nat} {x : Int32} {x0 : Option Nat} (d : decode (xC X) pc = .ok (.putfield idx, 3)) (hr : x0 = some q) (hf : xG X idx = some (ci, k, key, 0)) (hk : mKd M q = ci + 1) (kk : EX el X (pc + 3) ls st (mSetI M key q 0 x) Q) : EX el X pc ls (.inl x :: .inr x0 :: st) M Q := by
  subst hr
  obtain ⟨v, N, h9, q9⟩ := kk
  exact ⟨v, N, fun J hJ => (hJ 52 : me_rule el X v N J 52) pc ls st M q idx ci k key x d hf hk (h9 J hJ), q9⟩
theorem ex_putZ {pc : Nat} {ls : List (Option me_V)} {st : List me_V} {M : me_M} {q idx ci k key : Nat} {x : Int32} {x0 : Option Nat} (d : decode (xC X) pc = .ok (.putfield idx, 3)) (hr : x0 = some q) (hf : xG X idx = some (ci, k, key, 1)) (hk : mKd M q = ci + 1) (hz : x = 0 ∨ x = 1) (kk : EX el X (pc + 3) ls st (mSetI M key q 0 x) Q) : EX el X pc ls (.inl x :: .inr x0 :: st) M Q := by
  subst hr
  obtain ⟨v, N, h9, q9⟩ := kk
  exact ⟨v, N, fun J hJ => (hJ 53 : me_rule el X v N J 53) pc ls st M q idx ci k key x d hf hk hz (h9 J hJ), q9⟩
theorem ex_putR {pc : Nat} {ls : List (Option me_V)} {st : List me_V} {M : me_M} {q idx ci k key : Nat} {x : Option Nat} {x0 : Option Nat} (d : decode (xC X) pc = .ok (.putfield idx, 3)) (hr : x0 = some q) (hf : xG X idx = some (ci, k, key, 2)) (hk : mKd M q = ci + 1) (kk : EX el X (pc + 3) ls st (mSetR M key q 0 x) Q) : EX el X pc ls (.inr x :: .inr x0 :: st) M Q := by
  subst hr
  obtain ⟨v, N, h9, q9⟩ := kk
  exact ⟨v, N, fun J hJ => (hJ 54 : me_rule el X v N J 54) pc ls st M q idx ci k key x d hf hk (h9 J hJ), q9⟩
theorem ex_new {pc : Nat} {ls : List (Option me_V)} {st : List me_V} {M : me_M} {idx ci n : Nat} (d : decode (xC X) pc = .ok (.new idx, 3)) (hf : xN X idx = some (ci, n)) (kk : mKd (mNew M (ci + 1) 0 n) (mSz M) = ci + 1 → EX el X (pc + 3) ls (.inr (some (mSz M)) :: st) (mNew M (ci + 1) 0 n) Q) : EX el X pc ls st M Q := by
  obtain ⟨v, N, h9, q9⟩ := kk (if_pos rfl)
  exact ⟨v, N, fun J hJ => (hJ 55 : me_rule el X v N J 55) pc ls st M idx ci n d hf (h9 J hJ), q9⟩
theorem ex_newI {pc : Nat} {ls : List (Option me_V)} {st : List me_V} {M : me_M} {n : Int32} (d : decode (xC X) pc = .ok (.newarray .int, 2)) (hf : xA X 70000 = some 100) (hn : ¬ n < 0) (hb : n.toNatClampNeg ≤ 100000) (kk : mKd (mNew M 100 n.toNatClampNeg n.toNatClampNeg) (mSz M) = 100 → EX el X (pc + 2) ls (.inr (some (mSz M)) :: st) (mNew M 100 n.toNatClampNeg n.toNatClampNeg) Q) : EX el X pc ls (.inl n :: st) M Q := by
  obtain ⟨v, N, h9, q9⟩ := kk (if_pos rfl)
  exact ⟨v, N, fun J hJ => (hJ 56 : me_rule el X v N J 56) pc ls st M n d hf hn hb (h9 J hJ), q9⟩
theorem ex_newZ {pc : Nat} {ls : List (Option me_V)} {st : List me_V} {M : me_M} {n : Int32} (d : decode (xC X) pc = .ok (.newarray .boolean, 2)) (hf : xA X 70001 = some 101) (hn : ¬ n < 0) (hb : n.toNatClampNeg ≤ 100000) (kk : mKd (mNew M 101 n.toNatClampNeg n.toNatClampNeg) (mSz M) = 101 → EX el X (pc + 2) ls (.inr (some (mSz M)) :: st) (mNew M 101 n.toNatClampNeg n.toNatClampNeg) Q) : EX el X pc ls (.inl n :: st) M Q := by
  obtain ⟨v, N, h9, q9⟩ := kk (if_pos rfl)
  exact ⟨v, N, fun J hJ => (hJ 57 : me_rule el X v N J 57) pc ls st M n d hf hn hb (h9 J hJ), q9⟩
theorem ex_newR {pc : Nat} {ls : List (Option me_V)} {st : List me_V} {M : me_M} {n : Int32} {idx a : Nat} (d : decode (xC X) pc = .ok (.anewarray idx, 3)) (hf : xA X idx = some a) (hi : idx < 70000) (hn : ¬ n < 0) (hb : n.toNatClampNeg ≤ 100000) (kk : mKd (mNew M a n.toNatClampNeg n.toNatClampNeg) (mSz M) = a → EX el X (pc + 3) ls (.inr (some (mSz M)) :: st) (mNew M a n.toNatClampNeg n.toNatClampNeg) Q) : EX el X pc ls (.inl n :: st) M Q := by
  obtain ⟨v, N, h9, q9⟩ := kk (if_pos rfl)
  exact ⟨v, N, fun J hJ => (hJ 58 : me_rule el X v N J 58) pc ls st M n idx a d hf hi hn hb (h9 J hJ), q9⟩
theorem ex_alen {pc : Nat} {ls : List (Option me_V)} {st : List me_V} {M : me_M} {q : Nat} {x0 : Option Nat} (d : decode (xC X) pc = .ok (.arraylength, 1)) (hr : x0 = some q) (hk : 100 ≤ mKd M q) (kk : EX el X (pc + 1) ls (.inl (Int32.ofNat (mLn M q)) :: st) M Q) : EX el X pc ls (.inr x0 :: st) M Q := by
  subst hr
  obtain ⟨v, N, h9, q9⟩ := kk
  exact ⟨v, N, fun J hJ => (hJ 59 : me_rule el X v N J 59) pc ls st M q d hk (h9 J hJ), q9⟩
theorem ex_iald {pc : Nat} {ls : List (Option me_V)} {st : List me_V} {M : me_M} {q : Nat} {i : Int32} {x0 : Option Nat} (d : decode (xC X) pc = .ok (.iaload, 1)) (hr : x0 = some q) (hk : mKd M q = 100) (hi : vp_in i (mLn M q)) (kk : EX el X (pc + 1) ls (.inl (mI M 100 q i.toNatClampNeg) :: st) M Q) : EX el X pc ls (.inl i :: .inr x0 :: st) M Q := by
  subst hr
  obtain ⟨v, N, h9, q9⟩ := kk
  exact ⟨v, N, fun J hJ => (hJ 60 : me_rule el X v N J 60) pc ls st M q i d hk hi (h9 J hJ), q9⟩
theorem ex_iast {pc : Nat} {ls : List (Option me_V)} {st : List me_V} {M : me_M} {q : Nat} {i x : Int32} {x0 : Option Nat} (d : decode (xC X) pc = .ok (.iastore, 1)) (hr : x0 = some q) (hk : mKd M q = 100) (hi : vp_in i (mLn M q)) (kk : EX el X (pc + 1) ls st (mSetI M 100 q i.toNatClampNeg x) Q) : EX el X pc ls (.inl x :: .inl i :: .inr x0 :: st) M Q := by
  subst hr
  obtain ⟨v, N, h9, q9⟩ := kk
  exact ⟨v, N, fun J hJ => (hJ 61 : me_rule el X v N J 61) pc ls st M q i x d hk hi (h9 J hJ), q9⟩
theorem ex_zald {pc : Nat} {ls : List (Option me_V)} {st : List me_V} {M : me_M} {q : Nat} {i : Int32} {x0 : Option Nat} (d : decode (xC X) pc = .ok (.baload, 1)) (hr : x0 = some q) (hk : mKd M q = 101) (hi : vp_in i (mLn M q)) (kk : EX el X (pc + 1) ls (.inl (mI M 101 q i.toNatClampNeg) :: st) M Q) : EX el X pc ls (.inl i :: .inr x0 :: st) M Q := by
  subst hr
  obtain ⟨v, N, h9, q9⟩ := kk
  exact ⟨v, N, fun J hJ => (hJ 62 : me_rule el X v N J 62) pc ls st M q i d hk hi (h9 J hJ), q9⟩
theorem ex_zast {pc : Nat} {ls : List (Option me_V)} {st : List me_V} {M : me_M} {q : Nat} {i x : Int32} {x0 : Option Nat} (d : decode (xC X) pc = .ok (.bastore, 1)) (hr : x0 = some q) (hk : mKd M q = 101) (hi : vp_in i (mLn M q)) (hz : x = 0 ∨ x = 1) (kk : EX el X (pc + 1) ls st (mSetI M 101 q i.toNatClampNeg x) Q) : EX el X pc ls (.inl x :: .inl i :: .inr x0 :: st) M Q := by
  subst hr
  obtain ⟨v, N, h9, q9⟩ := kk
  exact ⟨v, N, fun J hJ => (hJ 63 : me_rule el X v N J 63) pc ls st M q i x d hk hi hz (h9 J hJ), q9⟩
theorem ex_aald {pc : Nat} {ls : List (Option me_V)} {st : List me_V} {M : me_M} {q a : Nat} {i : Int32} {x0 : Option Nat} (d : decode (xC X) pc = .ok (.aaload, 1)) (hr : x0 = some q) (hk : mKd M q = a) (ha : 102 ≤ a) (hi : vp_in i (mLn M q)) (kk : EX el X (pc + 1) ls (.inr (mR M a q i.toNatClampNeg) :: st) M Q) : EX el X pc ls (.inl i :: .inr x0 :: st) M Q := by
  subst hr
  obtain ⟨v, N, h9, q9⟩ := kk
  exact ⟨v, N, fun J hJ => (hJ 64 : me_rule el X v N J 64) pc ls st M q a i d hk ha hi (h9 J hJ), q9⟩
theorem ex_aast {pc : Nat} {ls : List (Option me_V)} {st : List me_V} {M : me_M} {q a w : Nat} {i : Int32} {x0 : Option Nat} {x1 : Option Nat} (d : decode (xC X) pc = .ok (.aastore, 1)) (hr : x0 = some q) (hk : mKd M q = a) (ha : 102 ≤ a) (hi : vp_in i (mLn M q)) (hr1 : x1 = some w) (hw : mKd M w = el a) (kk : EX el X (pc + 1) ls st (mSetR M a q i.toNatClampNeg (some w)) Q) : EX el X pc ls (.inr x1 :: .inl i :: .inr x0 :: st) M Q := by
  subst hr
  subst hr1
  obtain ⟨v, N, h9, q9⟩ := kk
  exact ⟨v, N, fun J hJ => (hJ 65 : me_rule el X v N J 65) pc ls st M q a w i d hk ha hi hw (h9 J hJ), q9⟩
theorem ex_aastN {pc : Nat} {ls : List (Option me_V)} {st : List me_V} {M : me_M} {q a : Nat} {i : Int32} {x0 : Option Nat} (d : decode (xC X) pc = .ok (.aastore, 1)) (hr : x0 = some q) (hk : mKd M q = a) (ha : 102 ≤ a) (hi : vp_in i (mLn M q)) (kk : EX el X (pc + 1) ls st (mSetR M a q i.toNatClampNeg none) Q) : EX el X pc ls (.inr none :: .inl i :: .inr x0 :: st) M Q := by
  subst hr
  obtain ⟨v, N, h9, q9⟩ := kk
  exact ⟨v, N, fun J hJ => (hJ 66 : me_rule el X v N J 66) pc ls st M q a i d hk ha hi (h9 J hJ), q9⟩
theorem ex_call {pc : Nat} {ls : List (Option me_V)} {st : List me_V} {M : me_M} {as : List me_V} {r : Option me_V} {M1 : me_M} (h : xCall X pc as M r M1) (hl : st.length ≤ 8) (kk : EX el X (pc + 3) ls (r.toList ++ st) M1 Q) : EX el X pc ls (as.reverse ++ st) M Q := by
  obtain ⟨v, N, h9, q9⟩ := kk
  exact ⟨v, N, fun J hJ => (hJ 67 : me_rule el X v N J 67) pc ls st M as r M1 h hl (h9 J hJ), q9⟩
theorem ex_obj {pc : Nat} {ls : List (Option me_V)} {st : List me_V} {M : me_M} {q : Nat} {x0 : Option Nat} (d : decode (xC X) pc = .ok (.invokespecial (xO X), 3)) (hr : x0 = some q) (ho : ¬ xO X = 0) (hl : st.length ≤ 8) (kk : EX el X (pc + 3) ls st M Q) : EX el X pc ls (.inr x0 :: st) M Q := by
  subst hr
  obtain ⟨v, N, h9, q9⟩ := kk
  exact ⟨v, N, fun J hJ => (hJ 68 : me_rule el X v N J 68) pc ls st M q d ho hl (h9 J hJ), q9⟩
theorem ex_drop {pc : Nat} {ls : List (Option me_V)} {st : List me_V} {M : me_M} {k : Nat} {ls2 : List (Option me_V)} (hs : ls.set k none = ls2) (kk : EX el X pc ls2 st M Q) : EX el X pc ls st M Q := by
  obtain ⟨v, N, h9, q9⟩ := kk
  exact ⟨v, N, fun J hJ => (hJ 69 : me_rule el X v N J 69) pc ls st M k ls2 hs (h9 J hJ), q9⟩
theorem ex_sald {pc : Nat} {ls : List (Option me_V)} {st : List me_V} {M : me_M} {b L : Nat} {xs : Nat → Int32} {i : Int32} {x0 : Option Nat} (d : decode (xC X) pc = .ok (.iaload, 1)) (hr : x0 = some b) (hs : xS X = some (b, L, xs)) (hi : vp_in i L) (kk : EX el X (pc + 1) ls (.inl (xs i.toNatClampNeg) :: st) M Q) : EX el X pc ls (.inl i :: .inr x0 :: st) M Q := by
  subst hr
  obtain ⟨v, N, h9, q9⟩ := kk
  exact ⟨v, N, fun J hJ => (hJ 70 : me_rule el X v N J 70) pc ls st M b L xs i d hs hi (h9 J hJ), q9⟩
theorem ex_slen {pc : Nat} {ls : List (Option me_V)} {st : List me_V} {M : me_M} {b L : Nat} {xs : Nat → Int32} {x0 : Option Nat} (d : decode (xC X) pc = .ok (.arraylength, 1)) (hr : x0 = some b) (hs : xS X = some (b, L, xs)) (kk : EX el X (pc + 1) ls (.inl (Int32.ofNat L) :: st) M Q) : EX el X pc ls (.inr x0 :: st) M Q := by
  subst hr
  obtain ⟨v, N, h9, q9⟩ := kk
  exact ⟨v, N, fun J hJ => (hJ 71 : me_rule el X v N J 71) pc ls st M b L xs d hs (h9 J hJ), q9⟩
theorem ex_ret_i {pc : Nat} {ls : List (Option me_V)} {x : Int32} {M : me_M} (d : decode (xC X) pc = .ok (.ireturn, 1)) (hr : xR X = 1) (hq : Q (some (.inl x)) M) : EX el X pc ls [.inl x] M Q :=
  ⟨some (.inl x), M, fun J hJ => (hJ 72 : me_rule el X (some (.inl x)) M J 72) pc ls x d hr rfl, hq⟩
theorem ex_ret_z {pc : Nat} {ls : List (Option me_V)} {x : Int32} {M : me_M} (d : decode (xC X) pc = .ok (.ireturn, 1)) (hr : xR X = 2) (hz : x = 0 ∨ x = 1) (hq : Q (some (.inl x)) M) : EX el X pc ls [.inl x] M Q :=
  ⟨some (.inl x), M, fun J hJ => (hJ 73 : me_rule el X (some (.inl x)) M J 73) pc ls x d hr hz rfl, hq⟩
theorem ex_ret_a {pc : Nat} {ls : List (Option me_V)} {x : Option Nat} {M : me_M} (d : decode (xC X) pc = .ok (.areturn, 1)) (hr : xR X = 3) (hq : Q (some (.inr x)) M) : EX el X pc ls [.inr x] M Q :=
  ⟨some (.inr x), M, fun J hJ => (hJ 74 : me_rule el X (some (.inr x)) M J 74) pc ls x d hr rfl, hq⟩
theorem ex_ret_v {pc : Nat} {ls : List (Option me_V)} {M : me_M} (d : decode (xC X) pc = .ok (.return_, 1)) (hr : xR X = 0) (hq : Q (none) M) : EX el X pc ls [] M Q :=
  ⟨none, M, fun J hJ => (hJ 75 : me_rule el X (none) M J 75) pc ls d hr rfl, hq⟩
theorem ex_tab {pc : Nat} {ls : List (Option me_V)} {st : List me_V} {M : me_M} {x : Int32} {dflt lo hi : Int} {offs : Array Int} {len : Nat} (_d : decode (xC X) pc = .ok (.tableswitch dflt lo hi offs, len)) (k1 : x.toInt < lo ∨ hi < x.toInt → EX el X pc ls (.inl x :: st) M Q) (k2 : ¬ x.toInt < lo → ¬ hi < x.toInt → EX el X pc ls (.inl x :: st) M Q) : EX el X pc ls (.inl x :: st) M Q := by
  by_cases h : x.toInt < lo ∨ hi < x.toInt
  · exact k1 h
  · exact k2 (fun z => h (Or.inl z)) (fun z => h (Or.inr z))
theorem ex_tabAt {pc : Nat} {ls : List (Option me_V)} {st : List me_V} {M : me_M} {x c : Int32} {dflt lo hi : Int} {offs : Array Int} {len : Nat} {off : Int} {tgt : Nat} (d : decode (xC X) pc = .ok (.tableswitch dflt lo hi offs, len)) (hx : x = c) (h1 : ¬ c.toInt < lo) (h2 : ¬ hi < c.toInt) (ho : offs[(c.toInt - lo).toNat]? = some off) (ht : (pc : Int) + off = (tgt : Int)) (kk : EX el X tgt ls st M Q) : EX el X pc ls (.inl x :: st) M Q := by
  subst hx
  exact ex_tabIn d h1 h2 ho ht kk
theorem me_cases7 {x : Int32} (h1 : ¬ x.toInt < 0) (h2 : ¬ 6 < x.toInt) : x = 0 ∨ x = 1 ∨ x = 2 ∨ x = 3 ∨ x = 4 ∨ x = 5 ∨ x = 6 := by
  have h : x.toInt = 0 ∨ x.toInt = 1 ∨ x.toInt = 2 ∨ x.toInt = 3 ∨ x.toInt = 4 ∨ x.toInt = 5 ∨ x.toInt = 6 := by omega
  rcases h with h | h | h | h | h | h | h
  · exact Or.inl (Int32.toInt_inj.mp (h.trans (by decide)))
  · exact Or.inr (Or.inl (Int32.toInt_inj.mp (h.trans (by decide))))
  · exact Or.inr (Or.inr (Or.inl (Int32.toInt_inj.mp (h.trans (by decide)))))
  · exact Or.inr (Or.inr (Or.inr (Or.inl (Int32.toInt_inj.mp (h.trans (by decide))))))
  · exact Or.inr (Or.inr (Or.inr (Or.inr (Or.inl (Int32.toInt_inj.mp (h.trans (by decide)))))))
  · exact Or.inr (Or.inr (Or.inr (Or.inr (Or.inr (Or.inl (Int32.toInt_inj.mp (h.trans (by decide))))))))
  · exact Or.inr (Or.inr (Or.inr (Or.inr (Or.inr (Or.inr (Int32.toInt_inj.mp (h.trans (by decide))))))))
theorem me_cases17 {x : Int32} (h1 : ¬ x.toInt < 0) (h2 : ¬ 16 < x.toInt) : x = 0 ∨ x = 1 ∨ x = 2 ∨ x = 3 ∨ x = 4 ∨ x = 5 ∨ x = 6 ∨ x = 7 ∨ x = 8 ∨ x = 9 ∨ x = 10 ∨ x = 11 ∨ x = 12 ∨ x = 13 ∨ x = 14 ∨ x = 15 ∨ x = 16 := by
  have h : x.toInt = 0 ∨ x.toInt = 1 ∨ x.toInt = 2 ∨ x.toInt = 3 ∨ x.toInt = 4 ∨ x.toInt = 5 ∨ x.toInt = 6 ∨ x.toInt = 7 ∨ x.toInt = 8 ∨ x.toInt = 9 ∨ x.toInt = 10 ∨ x.toInt = 11 ∨ x.toInt = 12 ∨ x.toInt = 13 ∨ x.toInt = 14 ∨ x.toInt = 15 ∨ x.toInt = 16 := by omega
  rcases h with h | h | h | h | h | h | h | h | h | h | h | h | h | h | h | h | h
  · exact Or.inl (Int32.toInt_inj.mp (h.trans (by decide)))
  · exact Or.inr (Or.inl (Int32.toInt_inj.mp (h.trans (by decide))))
  · exact Or.inr (Or.inr (Or.inl (Int32.toInt_inj.mp (h.trans (by decide)))))
  · exact Or.inr (Or.inr (Or.inr (Or.inl (Int32.toInt_inj.mp (h.trans (by decide))))))
  · exact Or.inr (Or.inr (Or.inr (Or.inr (Or.inl (Int32.toInt_inj.mp (h.trans (by decide)))))))
  · exact Or.inr (Or.inr (Or.inr (Or.inr (Or.inr (Or.inl (Int32.toInt_inj.mp (h.trans (by decide))))))))
  · exact Or.inr (Or.inr (Or.inr (Or.inr (Or.inr (Or.inr (Or.inl (Int32.toInt_inj.mp (h.trans (by decide)))))))))
  · exact Or.inr (Or.inr (Or.inr (Or.inr (Or.inr (Or.inr (Or.inr (Or.inl (Int32.toInt_inj.mp (h.trans (by decide))))))))))
  · exact Or.inr (Or.inr (Or.inr (Or.inr (Or.inr (Or.inr (Or.inr (Or.inr (Or.inl (Int32.toInt_inj.mp (h.trans (by decide)))))))))))
  · exact Or.inr (Or.inr (Or.inr (Or.inr (Or.inr (Or.inr (Or.inr (Or.inr (Or.inr (Or.inl (Int32.toInt_inj.mp (h.trans (by decide))))))))))))
  · exact Or.inr (Or.inr (Or.inr (Or.inr (Or.inr (Or.inr (Or.inr (Or.inr (Or.inr (Or.inr (Or.inl (Int32.toInt_inj.mp (h.trans (by decide)))))))))))))
  · exact Or.inr (Or.inr (Or.inr (Or.inr (Or.inr (Or.inr (Or.inr (Or.inr (Or.inr (Or.inr (Or.inr (Or.inl (Int32.toInt_inj.mp (h.trans (by decide))))))))))))))
  · exact Or.inr (Or.inr (Or.inr (Or.inr (Or.inr (Or.inr (Or.inr (Or.inr (Or.inr (Or.inr (Or.inr (Or.inr (Or.inl (Int32.toInt_inj.mp (h.trans (by decide)))))))))))))))
  · exact Or.inr (Or.inr (Or.inr (Or.inr (Or.inr (Or.inr (Or.inr (Or.inr (Or.inr (Or.inr (Or.inr (Or.inr (Or.inr (Or.inl (Int32.toInt_inj.mp (h.trans (by decide))))))))))))))))
  · exact Or.inr (Or.inr (Or.inr (Or.inr (Or.inr (Or.inr (Or.inr (Or.inr (Or.inr (Or.inr (Or.inr (Or.inr (Or.inr (Or.inr (Or.inl (Int32.toInt_inj.mp (h.trans (by decide)))))))))))))))))
  · exact Or.inr (Or.inr (Or.inr (Or.inr (Or.inr (Or.inr (Or.inr (Or.inr (Or.inr (Or.inr (Or.inr (Or.inr (Or.inr (Or.inr (Or.inr (Or.inl (Int32.toInt_inj.mp (h.trans (by decide))))))))))))))))))
  · exact Or.inr (Or.inr (Or.inr (Or.inr (Or.inr (Or.inr (Or.inr (Or.inr (Or.inr (Or.inr (Or.inr (Or.inr (Or.inr (Or.inr (Or.inr (Or.inr (Int32.toInt_inj.mp (h.trans (by decide))))))))))))))))))
theorem me_100 {a n : Nat} (h : n = a) (ha : 100 ≤ a) : 100 ≤ n := by omega
def me_cS (el : Nat → Nat) (Y : me_X) (nA mL : Nat) (as : List me_V) (M : me_M) (r : Option me_V) (M1 : me_M) : Prop := as.length = nA ∧ RUN el Y 0 (as.map some ++ List.replicate (mL - nA) none) [] M r M1
def me_cV (el : Nat → Nat) (Y : me_X) (nA mL ci : Nat) (as : List me_V) (M : me_M) (r : Option me_V) (M1 : me_M) : Prop := (∃ b t, as = .inr (some b) :: t ∧ mKd M b = ci + 1) ∧ as.length = nA ∧ RUN el Y 0 (as.map some ++ List.replicate (mL - nA) none) [] M r M1
def me_max (x y : Int32) : Int32 := if x < y then y else x
def me_cMax (as : List me_V) (M : me_M) (r : Option me_V) (M1 : me_M) : Prop := ∃ x y : Int32, as = [.inl x, .inl y] ∧ r = some (.inl (me_max x y)) ∧ M1 = M
theorem ex_cS0 {pc : Nat} {ls ls0 : List (Option me_V)} {st stk as : List me_V} {M : me_M} {Y : me_X} {nA mL : Nat} (hs : stk = as.reverse ++ st) (hc : xCall X pc = me_cS el Y nA mL) (hn : as.length = nA) (h0 : as.map some ++ List.replicate (mL - nA) none = ls0) (hl : st.length ≤ 8)
    (he : EX el Y 0 ls0 [] M (fun r M1 => EX el X (pc + 3) ls (r.toList ++ st) M1 Q)) : EX el X pc ls stk M Q := by
  subst hs h0
  obtain ⟨r, M1, h1, v, N, h2, h3⟩ := he
  exact ⟨v, N, fun J hJ => (hJ 67 : me_rule el X v N J 67) pc ls st M as r M1 (by rw [hc]; exact ⟨hn, h1⟩) hl (h2 J hJ), h3⟩
theorem ex_cV0 {pc : Nat} {ls ls0 : List (Option me_V)} {st stk as : List me_V} {M : me_M} {Y : me_X} {nA mL ci b : Nat} {x0 : Option Nat} (hr : x0 = some b) (hs : stk = (.inr x0 :: as).reverse ++ st) (hk : mKd M b = ci + 1) (hc : xCall X pc = me_cV el Y nA mL ci) (hn : as.length + 1 = nA) (h0 : (some (.inr (some b)) :: as.map some) ++ List.replicate (mL - nA) none = ls0) (hl : st.length ≤ 8)
    (he : EX el Y 0 ls0 [] M (fun r M1 => EX el X (pc + 3) ls (r.toList ++ st) M1 Q)) : EX el X pc ls stk M Q := by
  subst hr hs h0
  obtain ⟨r, M1, h1, v, N, h2, h3⟩ := he
  exact ⟨v, N, fun J hJ => (hJ 67 : me_rule el X v N J 67) pc ls st M (.inr (some b) :: as) r M1 (by rw [hc]; exact ⟨⟨b, as, rfl, hk⟩, hn, h1⟩) hl (h2 J hJ), h3⟩
theorem ex_max {pc : Nat} {ls : List (Option me_V)} {st : List me_V} {M : me_M} {x y : Int32} (hc : xCall X pc = me_cMax) (hl : st.length ≤ 8) (kk : EX el X (pc + 3) ls (.inl (me_max x y) :: st) M Q) : EX el X pc ls (.inl y :: .inl x :: st) M Q := by
  obtain ⟨v, N, h2, h3⟩ := kk
  exact ⟨v, N, fun J hJ => (hJ 67 : me_rule el X v N J 67) pc ls st M [.inl x, .inl y] (some (.inl (me_max x y))) M (by rw [hc]; exact ⟨x, y, rfl, rfl, rfl⟩) hl (h2 J hJ), h3⟩
theorem ex_cSV {pc : Nat} {ls ls0 : List (Option me_V)} {st stk as : List me_V} {M : me_M} {Y : me_X} {nA mL : Nat} (hs : stk = as.reverse ++ st) (hc : xCall X pc = me_cS el Y nA mL) (hn : as.length = nA) (h0 : as.map some ++ List.replicate (mL - nA) none = ls0) (hl : st.length ≤ 8) (he : EX el Y 0 ls0 [] M (fun r M1 => r = none ∧ EX el X (pc + 3) ls st M1 Q)) : EX el X pc ls stk M Q := by
  refine ex_cS0 hs hc hn h0 hl (EX.mono he fun r M1 h => ?_)
  obtain ⟨rfl, h⟩ := h
  exact h
theorem ex_cVV {pc : Nat} {ls ls0 : List (Option me_V)} {st stk as : List me_V} {M : me_M} {Y : me_X} {nA mL ci b : Nat} {x0 : Option Nat} (hr : x0 = some b) (hs : stk = (.inr x0 :: as).reverse ++ st) (hk : mKd M b = ci + 1) (hc : xCall X pc = me_cV el Y nA mL ci) (hn : as.length + 1 = nA) (h0 : (some (.inr (some b)) :: as.map some) ++ List.replicate (mL - nA) none = ls0) (hl : st.length ≤ 8) (he : EX el Y 0 ls0 [] M (fun r M1 => r = none ∧ EX el X (pc + 3) ls st M1 Q)) : EX el X pc ls stk M Q := by
  refine ex_cV0 hr hs hk hc hn h0 hl (EX.mono he fun r M1 h => ?_)
  obtain ⟨rfl, h⟩ := h
  exact h
theorem ex_cSI {pc : Nat} {ls ls0 : List (Option me_V)} {st stk as : List me_V} {M : me_M} {Y : me_X} {nA mL : Nat} (hs : stk = as.reverse ++ st) (hc : xCall X pc = me_cS el Y nA mL) (hn : as.length = nA) (h0 : as.map some ++ List.replicate (mL - nA) none = ls0) (hl : st.length ≤ 8) (he : EX el Y 0 ls0 [] M (fun r M1 => ∃ x, r = some (.inl x) ∧ EX el X (pc + 3) ls (.inl x :: st) M1 Q)) : EX el X pc ls stk M Q := by
  refine ex_cS0 hs hc hn h0 hl (EX.mono he fun r M1 h => ?_)
  obtain ⟨x, rfl, h⟩ := h
  exact h
theorem ex_cVI {pc : Nat} {ls ls0 : List (Option me_V)} {st stk as : List me_V} {M : me_M} {Y : me_X} {nA mL ci b : Nat} {x0 : Option Nat} (hr : x0 = some b) (hs : stk = (.inr x0 :: as).reverse ++ st) (hk : mKd M b = ci + 1) (hc : xCall X pc = me_cV el Y nA mL ci) (hn : as.length + 1 = nA) (h0 : (some (.inr (some b)) :: as.map some) ++ List.replicate (mL - nA) none = ls0) (hl : st.length ≤ 8) (he : EX el Y 0 ls0 [] M (fun r M1 => ∃ x, r = some (.inl x) ∧ EX el X (pc + 3) ls (.inl x :: st) M1 Q)) : EX el X pc ls stk M Q := by
  refine ex_cV0 hr hs hk hc hn h0 hl (EX.mono he fun r M1 h => ?_)
  obtain ⟨x, rfl, h⟩ := h
  exact h
theorem ex_cSR {pc : Nat} {ls ls0 : List (Option me_V)} {st stk as : List me_V} {M : me_M} {Y : me_X} {nA mL : Nat} (hs : stk = as.reverse ++ st) (hc : xCall X pc = me_cS el Y nA mL) (hn : as.length = nA) (h0 : as.map some ++ List.replicate (mL - nA) none = ls0) (hl : st.length ≤ 8) (he : EX el Y 0 ls0 [] M (fun r M1 => ∃ x, r = some (.inr x) ∧ EX el X (pc + 3) ls (.inr x :: st) M1 Q)) : EX el X pc ls stk M Q := by
  refine ex_cS0 hs hc hn h0 hl (EX.mono he fun r M1 h => ?_)
  obtain ⟨x, rfl, h⟩ := h
  exact h
theorem ex_cVR {pc : Nat} {ls ls0 : List (Option me_V)} {st stk as : List me_V} {M : me_M} {Y : me_X} {nA mL ci b : Nat} {x0 : Option Nat} (hr : x0 = some b) (hs : stk = (.inr x0 :: as).reverse ++ st) (hk : mKd M b = ci + 1) (hc : xCall X pc = me_cV el Y nA mL ci) (hn : as.length + 1 = nA) (h0 : (some (.inr (some b)) :: as.map some) ++ List.replicate (mL - nA) none = ls0) (hl : st.length ≤ 8) (he : EX el Y 0 ls0 [] M (fun r M1 => ∃ x, r = some (.inr x) ∧ EX el X (pc + 3) ls (.inr x :: st) M1 Q)) : EX el X pc ls stk M Q := by
  refine ex_cV0 hr hs hk hc hn h0 hl (EX.mono he fun r M1 h => ?_)
  obtain ⟨x, rfl, h⟩ := h
  exact h
end EXR
def eL : Nat → Nat := fun a => match a with | 102 => 10 | 103 => 3 | 104 => 4 | 105 => 6 | 106 => 9 | _ => 0
end
section
/-! base; classes' numbers and slots; classes; array types (kind 100 + place); a field's type (0 int, 1 boolean, 2 a reference) -/
abbrev me_G : Type := Nat × va_G × List vw_C × List (ClassId × FieldType) × (Nat → Nat → Nat) × List Cond
abbrev gB (G : me_G) := G.1
abbrev gD (G : me_G) := G.2.1
abbrev gC (G : me_G) := G.2.2.1
abbrev gT (G : me_G) := G.2.2.2.1
abbrev gF (G : me_G) := G.2.2.2.2.1
abbrev gW (G : me_G) := G.2.2.2.2.2
/-- the words of nest mates, which no list of words keeps -/
def me_NW (G : me_G) : Prop := ∀ w ∈ gW G, (∃ (a : String) (i : Nat) (x : MethodName) (h : String), w = .methodLinkNest a i x h) ∨ ∃ C : String, w = .arrayOver (.object C)
def me_Nw (G : me_G) (U : State) : Prop := ∀ w ∈ gW G, va_Nw w U
theorem me_Nw.warm {G : me_G} (hG : me_NW G) {s U : State} (hW : s.WarmedH U.vm) (h : me_Nw G s) : me_Nw G U := by
  intro w hw
  rcases hG w hw with ⟨a, i, x, h1, rfl⟩ | ⟨C, rfl⟩
  · exact va_Nw.warmM hW (h _ hw)
  · exact va_AO.moved hW.alike (h _ hw)
def me_fv (G : me_G) (M : me_M) (ci k q : Nat) : me_V := if gF G ci k = 2 then .inr (mR M (1000 + 64 * ci + k) q 0) else .inl (mI M (1000 + 64 * ci + k) q 0)
def me_av (M : me_M) (a q j : Nat) : me_V := if 102 ≤ a then .inr (mR M a q j) else .inl (mI M a q j)
/-- the cell at q is what M says -/
def me_at (G : me_G) (M : me_M) (H : Heap) (q : Nat) : Prop :=
  (∀ ci, mKd M q = ci + 1 → ci < 99 → ∃ r : vw_C, (gC G)[ci]? = some r ∧ t_OB q ((gD G).1 ci) r.2.2 ((gD G).2 ci) H (fun k => me_v (me_fv G M ci k q))) ∧
  (100 ≤ mKd M q → ∃ t : ClassId × FieldType, (gT G)[mKd M q - 100]? = some t ∧ H[q]? = some (arrV t.1 (mLn M q) (fun j => me_v (me_av M (mKd M q) q j))))
def me_H (G : me_G) (M : me_M) (H : Heap) : Prop :=
  H.size = mSz M ∧ (∀ q, me_at G M H q) ∧ (∀ q, mSz M ≤ q → mKd M q = 0 ∧ ∀ k i, mI M k q i = 0 ∧ mR M k q i = none) ∧ (∀ q, mKd M q ≠ 0 → gB G ≤ q) ∧ gB G ≤ mSz M
theorem me_H.lt {G : me_G} {M : me_M} {H : Heap} (h : me_H G M H) {q : Nat} (hq : mKd M q ≠ 0) : q < mSz M := by
  refine Nat.lt_of_not_le fun hz => hq (h.2.2.1 q hz).1
/-- one cell is written -/
theorem me_H.write {G : me_G} {M N : me_M} {H H1 : Heap} (h : me_H G M H) (q : Nat) (hq : mKd M q ≠ 0) (e1 : mKd N = mKd M) (e2 : mLn N = mLn M) (e3 : mSz N = mSz M)
    (hI : ∀ k q' i, q' ≠ q → mI N k q' i = mI M k q' i) (hR : ∀ k q' i, q' ≠ q → mR N k q' i = mR M k q' i) (hz : H1.size = H.size) (ho : ∀ q', q' ≠ q → H1[q']? = H[q']?) (ha : me_at G N H1 q) : me_H G N H1 := by
  have hlt := h.lt hq
  obtain ⟨h1, h2, h3, h4, h5⟩ := h
  refine ⟨by rw [hz, e3]; exact h1, fun q' => ?_, fun q' hq' => ?_, fun q' hq' => h4 q' (by rw [← e1]; exact hq'), by rw [e3]; exact h5⟩
  · by_cases hqq : q' = q
    · rw [hqq]; exact ha
    · obtain ⟨a1, a2⟩ := h2 q'
      refine ⟨fun ci hk hci => ?_, fun hk => ?_⟩
      · rw [e1] at hk
        obtain ⟨r, b1, b2⟩ := a1 ci hk hci
        refine ⟨r, b1, (b2.kept (ho q' hqq)).to fun k _ => ?_⟩
        unfold me_fv
        rw [hI _ _ _ hqq, hR _ _ _ hqq]
      · rw [e1] at hk ⊢
        obtain ⟨t, b1, b2⟩ := a2 hk
        refine ⟨t, b1, ?_⟩
        rw [ho q' hqq, b2, e2]
        unfold me_av
        congr 2
        funext j
        rw [hI _ _ _ hqq, hR _ _ _ hqq]
  · rw [e3] at hq'
    have hne : q' ≠ q := by omega
    obtain ⟨b1, b2⟩ := h3 q' hq'
    refine ⟨by rw [e1]; exact b1, fun k i => ?_⟩
    rw [hI _ _ _ hne, hR _ _ _ hne]
    exact b2 k i
/-- a cell is made -/
theorem me_H.made {G : me_G} {M : me_M} {H H1 : Heap} (h : me_H G M H) (kd ln sl : Nat) (hz : H1.size = H.size + 1) (ho : ∀ q', q' < H.size → H1[q']? = H[q']?) (ha : me_at G (mNew M kd ln sl) H1 (mSz M)) : me_H G (mNew M kd ln sl) H1 := by
  have hl := @me_H.lt _ _ _ h
  obtain ⟨h1, h2, h3, h4, h5⟩ := h
  refine ⟨by rw [hz, h1]; rfl, fun q' => ?_, fun q' hq' => ?_, fun q' hq' => ?_, by rw [mSz_New]; omega⟩
  · by_cases hqq : q' = mSz M
    · rw [hqq]; exact ha
    · have ek : mKd (mNew M kd ln sl) q' = mKd M q' := by rw [mKd_New, if_neg hqq]
      have el : mLn (mNew M kd ln sl) q' = mLn M q' := by rw [mLn_New, if_neg hqq]
      obtain ⟨a1, a2⟩ := h2 q'
      refine ⟨fun ci hk hci => ?_, fun hk => ?_⟩
      · rw [ek] at hk
        obtain ⟨r, b1, b2⟩ := a1 ci hk hci
        have := hl (q := q') (by omega)
        exact ⟨r, b1, b2.kept (ho q' (by omega))⟩
      · rw [ek] at hk ⊢
        obtain ⟨t, b1, b2⟩ := a2 hk
        have := hl (q := q') (by omega)
        refine ⟨t, b1, ?_⟩
        rw [ho q' (by omega), b2, el]
        rfl
  · rw [mSz_New] at hq'
    obtain ⟨b1, b2⟩ := h3 q' (by omega)
    exact ⟨by rw [mKd_New, if_neg (by omega)]; exact b1, b2⟩
  · rw [mKd_New] at hq'
    by_cases hqq : q' = mSz M
    · omega
    · rw [if_neg hqq] at hq'
      exact h4 q' hq'
/-! locals -/
def me_lv (ls : List (Option me_V)) : List (Nat × Value) := ls.zipIdx.filterMap (fun z => z.1.map (fun x => (z.2, me_v x)))
theorem me_lv_mem {ls : List (Option me_V)} {j : Nat} {w : Value} : (j, w) ∈ me_lv ls ↔ ∃ x, ls[j]? = some (some x) ∧ w = me_v x := by
  unfold me_lv
  rw [List.mem_filterMap]
  constructor
  · rintro ⟨⟨o, i⟩, h1, h2⟩
    rw [List.mem_zipIdx_iff_getElem?] at h1
    cases o with
    | none => cases h2
    | some x =>
      simp only [Option.map_some, Option.some.injEq, Prod.mk.injEq] at h2
      obtain ⟨rfl, rfl⟩ := h2
      exact ⟨x, h1, rfl⟩
  · rintro ⟨x, h1, rfl⟩
    exact ⟨(some x, j), List.mem_zipIdx_iff_getElem?.mpr h1, rfl⟩
theorem me_cat (x : me_V) : (me_v x).category = 1 := by
  rcases x with n | (_ | a) <;> rfl
theorem me_ld {la : Array Slot} {nL : Nat} {ls : List (Option me_V)} (h : lv_has la nL (me_lv ls)) {k : Nat} {x : me_V} (hx : ls[k]? = some (some x)) : la[k]? = some (.val (me_v x)) := h.2.2 (k, me_v x) (me_lv_mem.mpr ⟨x, hx, rfl⟩)
theorem me_st {la : Array Slot} {nL : Nat} {ls : List (Option me_V)} {k : Nat} {x : me_V} (h : lv_has la nL ((k, me_v x) :: (me_lv ls).filter (fun q => !(q.1 == k) && !(q.1 + 1 == k && q.2.category == 2)))) : lv_has la nL (me_lv (ls.set k (some x))) := by
  refine ⟨h.1, h.2.1, fun q hq => ?_⟩
  obtain ⟨j, w⟩ := q
  obtain ⟨y, hy, rfl⟩ := me_lv_mem.mp hq
  rw [List.getElem?_set] at hy
  by_cases hj : k = j
  · subst hj
    rw [if_pos rfl] at hy
    split at hy
    · cases hy
      exact h.2.2 _ List.mem_cons_self
    · cases hy
  · rw [if_neg hj] at hy
    refine h.2.2 _ (List.mem_cons_of_mem _ (List.mem_filter.mpr ⟨me_lv_mem.mpr ⟨y, hy, rfl⟩, ?_⟩))
    have hj2 : ¬ j = k := fun z => hj z.symm
    simp [hj2, me_cat]
/-- the machine's side of the rules -/
def me_JW (p : Program) (l : Launch) (e : Env) (R : Room) (s : State) (m : MethodId) (args : Array Value) (below : List Frame) (meth : Method) (c : Code) (Q : State → Prop) (G : me_G) (nL sz0 sl0 : Nat) (H0 : Heap) (N : me_M) : me_J := fun pc ls st M =>
  mSz M ≤ mSz N ∧ mSl M ≤ mSl N ∧ ∀ (H : Heap) (locs : List Loc) (la : Array Slot), sz0 ≤ mSz M → sl0 ≤ mSl M → me_H G M H → (∀ q, q < gB G → H[q]? = H0[q]?) → (∀ q ∈ locs, gB G ≤ q.base) → lv_has la nL (me_lv ls) → ls.length = nL →
    W p l e R s m args below meth c H locs (mSz M - sz0) (mSl M - sl0) Q (F0 m pc la (st.map me_v))
section SND
variable {p : Program} {l : Launch} {e : Env} {R : Room} {s : State} {m : MethodId} {args : Array Value} {below : List Frame} {meth : Method} {c : Code} {Q : State → Prop}
variable {G : me_G} {nL sz0 sl0 : Nat} {H0 : Heap} {X : me_X} {v : Option me_V} {N : me_M} {el : Nat → Nat} {own : String}

theorem so_iconst (hx : p.tables.exec = Jvm.exec) (hb : c.code = xC X) : me_rule el X v N (me_JW p l e R s m args below meth c Q G nL sz0 sl0 H0 N) 0 := by
  intro pc ls st M n w d hw kk
  exact ⟨kk.1, kk.2.1, fun H locs la a1 a2 a3 a4 a5 a6 a7 => lv_iconst hx hb d hw (kk.2.2 H locs la a1 a2 a3 a4 a5 a6 a7)⟩
theorem so_bipush (hx : p.tables.exec = Jvm.exec) (hb : c.code = xC X) : me_rule el X v N (me_JW p l e R s m args below meth c Q G nL sz0 sl0 H0 N) 1 := by
  intro pc ls st M n w d hw kk
  exact ⟨kk.1, kk.2.1, fun H locs la a1 a2 a3 a4 a5 a6 a7 => lv_bipush hx hb d hw (kk.2.2 H locs la a1 a2 a3 a4 a5 a6 a7)⟩
theorem so_sipush (hx : p.tables.exec = Jvm.exec) (hb : c.code = xC X) : me_rule el X v N (me_JW p l e R s m args below meth c Q G nL sz0 sl0 H0 N) 2 := by
  intro pc ls st M n w d hw kk
  exact ⟨kk.1, kk.2.1, fun H locs la a1 a2 a3 a4 a5 a6 a7 => lv_sipush hx hb d hw (kk.2.2 H locs la a1 a2 a3 a4 a5 a6 a7)⟩
theorem so_ldc (hx : p.tables.exec = Jvm.exec) (hb : c.code = xC X) (hown : s.vm.findClass own = some m.cls) (hc : ∀ n w, xK X n = some w → (Jvm.Cond.constant own n w).before args s = true) : me_rule el X v N (me_JW p l e R s m args below meth c Q G nL sz0 sl0 H0 N) 3 := by
  intro pc ls st M n w d hw kk
  exact ⟨kk.1, kk.2.1, fun H locs la a1 a2 a3 a4 a5 a6 a7 => lv_ldc hx hb hown (hc _ _ hw) d (kk.2.2 H locs la a1 a2 a3 a4 a5 a6 a7)⟩
theorem so_null (hx : p.tables.exec = Jvm.exec) (hb : c.code = xC X) : me_rule el X v N (me_JW p l e R s m args below meth c Q G nL sz0 sl0 H0 N) 4 := by
  intro pc ls st M d kk
  exact ⟨kk.1, kk.2.1, fun H locs la a1 a2 a3 a4 a5 a6 a7 => lv_null hx hb d (kk.2.2 H locs la a1 a2 a3 a4 a5 a6 a7)⟩
theorem so_iload_n (hx : p.tables.exec = Jvm.exec) (hb : c.code = xC X) : me_rule el X v N (me_JW p l e R s m args below meth c Q G nL sz0 sl0 H0 N) 5 := by
  intro pc ls st M k x d hl kk
  exact ⟨kk.1, kk.2.1, fun H locs la a1 a2 a3 a4 a5 a6 a7 => lv_iload_n hx hb d rfl (me_ld a6 hl) (kk.2.2 H locs la a1 a2 a3 a4 a5 a6 a7)⟩
theorem so_iload (hx : p.tables.exec = Jvm.exec) (hb : c.code = xC X) : me_rule el X v N (me_JW p l e R s m args below meth c Q G nL sz0 sl0 H0 N) 6 := by
  intro pc ls st M k x d hl kk
  exact ⟨kk.1, kk.2.1, fun H locs la a1 a2 a3 a4 a5 a6 a7 => lv_iload hx hb d (me_ld a6 hl) (kk.2.2 H locs la a1 a2 a3 a4 a5 a6 a7)⟩
theorem so_aload_n (hx : p.tables.exec = Jvm.exec) (hb : c.code = xC X) : me_rule el X v N (me_JW p l e R s m args below meth c Q G nL sz0 sl0 H0 N) 7 := by
  intro pc ls st M k x d hl kk
  refine ⟨kk.1, kk.2.1, fun H locs la a1 a2 a3 a4 a5 a6 a7 => ?_⟩
  cases x with
  | none => exact lv_aload_nN hx hb d rfl (me_ld a6 hl) (kk.2.2 H locs la a1 a2 a3 a4 a5 a6 a7)
  | some a => exact lv_aload_n hx hb d rfl (me_ld a6 hl) (kk.2.2 H locs la a1 a2 a3 a4 a5 a6 a7)
theorem so_aload (hx : p.tables.exec = Jvm.exec) (hb : c.code = xC X) : me_rule el X v N (me_JW p l e R s m args below meth c Q G nL sz0 sl0 H0 N) 8 := by
  intro pc ls st M k x d hl kk
  refine ⟨kk.1, kk.2.1, fun H locs la a1 a2 a3 a4 a5 a6 a7 => ?_⟩
  cases x with
  | none => exact lv_aloadN hx hb d (me_ld a6 hl) (kk.2.2 H locs la a1 a2 a3 a4 a5 a6 a7)
  | some a => exact lv_aload hx hb d (me_ld a6 hl) (kk.2.2 H locs la a1 a2 a3 a4 a5 a6 a7)
theorem so_istore_n (hx : p.tables.exec = Jvm.exec) (hb : c.code = xC X) : me_rule el X v N (me_JW p l e R s m args below meth c Q G nL sz0 sl0 H0 N) 9 := by
  intro pc ls st M k x ls2 d hk hs kk
  exact ⟨kk.1, kk.2.1, fun H locs la a1 a2 a3 a4 a5 a6 a7 => lv_istore_n hx hb d rfl a6 (by rw [← a7]; exact hk) rfl (fun la2 a8 => by subst hs; exact kk.2.2 H locs la2 a1 a2 a3 a4 a5 (me_st a8) (by rw [List.length_set]; exact a7))⟩
theorem so_istore (hx : p.tables.exec = Jvm.exec) (hb : c.code = xC X) : me_rule el X v N (me_JW p l e R s m args below meth c Q G nL sz0 sl0 H0 N) 10 := by
  intro pc ls st M k x ls2 d hk hs kk
  exact ⟨kk.1, kk.2.1, fun H locs la a1 a2 a3 a4 a5 a6 a7 => lv_istore hx hb d a6 (by rw [← a7]; exact hk) rfl (fun la2 a8 => by subst hs; exact kk.2.2 H locs la2 a1 a2 a3 a4 a5 (me_st a8) (by rw [List.length_set]; exact a7))⟩
theorem so_astore_n (hx : p.tables.exec = Jvm.exec) (hb : c.code = xC X) : me_rule el X v N (me_JW p l e R s m args below meth c Q G nL sz0 sl0 H0 N) 11 := by
  intro pc ls st M k x ls2 d hk hs kk
  refine ⟨kk.1, kk.2.1, fun H locs la a1 a2 a3 a4 a5 a6 a7 => ?_⟩
  cases x with
  | none => exact lv_astore_nN hx hb d rfl a6 (by rw [← a7]; exact hk) rfl (fun la2 a8 => by subst hs; exact kk.2.2 H locs la2 a1 a2 a3 a4 a5 (me_st a8) (by rw [List.length_set]; exact a7))
  | some a => exact lv_astore_n hx hb d rfl a6 (by rw [← a7]; exact hk) rfl (fun la2 a8 => by subst hs; exact kk.2.2 H locs la2 a1 a2 a3 a4 a5 (me_st a8) (by rw [List.length_set]; exact a7))
theorem so_astore (hx : p.tables.exec = Jvm.exec) (hb : c.code = xC X) : me_rule el X v N (me_JW p l e R s m args below meth c Q G nL sz0 sl0 H0 N) 12 := by
  intro pc ls st M k x ls2 d hk hs kk
  refine ⟨kk.1, kk.2.1, fun H locs la a1 a2 a3 a4 a5 a6 a7 => ?_⟩
  cases x with
  | none => exact lv_astoreN hx hb d a6 (by rw [← a7]; exact hk) rfl (fun la2 a8 => by subst hs; exact kk.2.2 H locs la2 a1 a2 a3 a4 a5 (me_st a8) (by rw [List.length_set]; exact a7))
  | some a => exact lv_astore hx hb d a6 (by rw [← a7]; exact hk) rfl (fun la2 a8 => by subst hs; exact kk.2.2 H locs la2 a1 a2 a3 a4 a5 (me_st a8) (by rw [List.length_set]; exact a7))
theorem so_iinc (hx : p.tables.exec = Jvm.exec) (hb : c.code = xC X) : me_rule el X v N (me_JW p l e R s m args below meth c Q G nL sz0 sl0 H0 N) 13 := by
  intro pc ls st M k n x ls2 d hl hs kk
  refine ⟨kk.1, kk.2.1, fun H locs la a1 a2 a3 a4 a5 a6 a7 => ?_⟩
  obtain ⟨j, hj⟩ := List.getElem?_of_mem (me_lv_mem.mpr ⟨_, hl, rfl⟩)
  have hk : k < nL := by rw [← a7]; exact (List.getElem?_eq_some_iff.mp hl).1
  exact lv_iinc hx hb d a6 hj rfl hk rfl (fun la2 a8 => by subst hs; exact kk.2.2 H locs la2 a1 a2 a3 a4 a5 (me_st a8) (by rw [List.length_set]; exact a7))
theorem so_iadd (hx : p.tables.exec = Jvm.exec) (hb : c.code = xC X) : me_rule el X v N (me_JW p l e R s m args below meth c Q G nL sz0 sl0 H0 N) 14 := by
  intro pc ls st M x y d kk
  exact ⟨kk.1, kk.2.1, fun H locs la a1 a2 a3 a4 a5 a6 a7 => lv_iadd hx hb d (kk.2.2 H locs la a1 a2 a3 a4 a5 a6 a7)⟩
theorem so_isub (hx : p.tables.exec = Jvm.exec) (hb : c.code = xC X) : me_rule el X v N (me_JW p l e R s m args below meth c Q G nL sz0 sl0 H0 N) 15 := by
  intro pc ls st M x y d kk
  exact ⟨kk.1, kk.2.1, fun H locs la a1 a2 a3 a4 a5 a6 a7 => lv_isub hx hb d (kk.2.2 H locs la a1 a2 a3 a4 a5 a6 a7)⟩
theorem so_imul (hx : p.tables.exec = Jvm.exec) (hb : c.code = xC X) : me_rule el X v N (me_JW p l e R s m args below meth c Q G nL sz0 sl0 H0 N) 16 := by
  intro pc ls st M x y d kk
  exact ⟨kk.1, kk.2.1, fun H locs la a1 a2 a3 a4 a5 a6 a7 => lv_imul hx hb d (kk.2.2 H locs la a1 a2 a3 a4 a5 a6 a7)⟩
theorem so_iand (hx : p.tables.exec = Jvm.exec) (hb : c.code = xC X) : me_rule el X v N (me_JW p l e R s m args below meth c Q G nL sz0 sl0 H0 N) 17 := by
  intro pc ls st M x y d kk
  exact ⟨kk.1, kk.2.1, fun H locs la a1 a2 a3 a4 a5 a6 a7 => lv_iand hx hb d (kk.2.2 H locs la a1 a2 a3 a4 a5 a6 a7)⟩
theorem so_ior (hx : p.tables.exec = Jvm.exec) (hb : c.code = xC X) : me_rule el X v N (me_JW p l e R s m args below meth c Q G nL sz0 sl0 H0 N) 18 := by
  intro pc ls st M x y d kk
  exact ⟨kk.1, kk.2.1, fun H locs la a1 a2 a3 a4 a5 a6 a7 => lv_ior hx hb d (kk.2.2 H locs la a1 a2 a3 a4 a5 a6 a7)⟩
theorem so_ixor (hx : p.tables.exec = Jvm.exec) (hb : c.code = xC X) : me_rule el X v N (me_JW p l e R s m args below meth c Q G nL sz0 sl0 H0 N) 19 := by
  intro pc ls st M x y d kk
  exact ⟨kk.1, kk.2.1, fun H locs la a1 a2 a3 a4 a5 a6 a7 => lv_ixor hx hb d (kk.2.2 H locs la a1 a2 a3 a4 a5 a6 a7)⟩
theorem so_ishl (hx : p.tables.exec = Jvm.exec) (hb : c.code = xC X) : me_rule el X v N (me_JW p l e R s m args below meth c Q G nL sz0 sl0 H0 N) 20 := by
  intro pc ls st M x y d kk
  exact ⟨kk.1, kk.2.1, fun H locs la a1 a2 a3 a4 a5 a6 a7 => lv_ishl hx hb d (kk.2.2 H locs la a1 a2 a3 a4 a5 a6 a7)⟩
theorem so_ishr (hx : p.tables.exec = Jvm.exec) (hb : c.code = xC X) : me_rule el X v N (me_JW p l e R s m args below meth c Q G nL sz0 sl0 H0 N) 21 := by
  intro pc ls st M x y d kk
  exact ⟨kk.1, kk.2.1, fun H locs la a1 a2 a3 a4 a5 a6 a7 => lv_ishr hx hb d (kk.2.2 H locs la a1 a2 a3 a4 a5 a6 a7)⟩
theorem so_ineg (hx : p.tables.exec = Jvm.exec) (hb : c.code = xC X) : me_rule el X v N (me_JW p l e R s m args below meth c Q G nL sz0 sl0 H0 N) 24 := by
  intro pc ls st M x d kk
  exact ⟨kk.1, kk.2.1, fun H locs la a1 a2 a3 a4 a5 a6 a7 => lv_ineg hx hb d (kk.2.2 H locs la a1 a2 a3 a4 a5 a6 a7)⟩
theorem so_idiv (hx : p.tables.exec = Jvm.exec) (hb : c.code = xC X) : me_rule el X v N (me_JW p l e R s m args below meth c Q G nL sz0 sl0 H0 N) 22 := by
  intro pc ls st M x y d hy kk
  exact ⟨kk.1, kk.2.1, fun H locs la a1 a2 a3 a4 a5 a6 a7 => lv_idiv hx hb d hy (kk.2.2 H locs la a1 a2 a3 a4 a5 a6 a7)⟩
theorem so_irem (hx : p.tables.exec = Jvm.exec) (hb : c.code = xC X) : me_rule el X v N (me_JW p l e R s m args below meth c Q G nL sz0 sl0 H0 N) 23 := by
  intro pc ls st M x y d hy kk
  exact ⟨kk.1, kk.2.1, fun H locs la a1 a2 a3 a4 a5 a6 a7 => lv_irem hx hb d hy (kk.2.2 H locs la a1 a2 a3 a4 a5 a6 a7)⟩
theorem so_dup (hx : p.tables.exec = Jvm.exec) (hb : c.code = xC X) : me_rule el X v N (me_JW p l e R s m args below meth c Q G nL sz0 sl0 H0 N) 25 := by
  intro pc ls st M x d kk
  exact ⟨kk.1, kk.2.1, fun H locs la a1 a2 a3 a4 a5 a6 a7 => lv_dup hx hb d (me_cat x) (kk.2.2 H locs la a1 a2 a3 a4 a5 a6 a7)⟩
theorem so_pop (hx : p.tables.exec = Jvm.exec) (hb : c.code = xC X) : me_rule el X v N (me_JW p l e R s m args below meth c Q G nL sz0 sl0 H0 N) 26 := by
  intro pc ls st M x d kk
  exact ⟨kk.1, kk.2.1, fun H locs la a1 a2 a3 a4 a5 a6 a7 => lv_pop hx hb d (me_cat x) (kk.2.2 H locs la a1 a2 a3 a4 a5 a6 a7)⟩
theorem so_dup_x1 (hx : p.tables.exec = Jvm.exec) (hb : c.code = xC X) : me_rule el X v N (me_JW p l e R s m args below meth c Q G nL sz0 sl0 H0 N) 27 := by
  intro pc ls st M x y d kk
  exact ⟨kk.1, kk.2.1, fun H locs la a1 a2 a3 a4 a5 a6 a7 => lv_dup_x1 hx hb d (me_cat x) (me_cat y) (kk.2.2 H locs la a1 a2 a3 a4 a5 a6 a7)⟩
theorem so_dup_x2 (hx : p.tables.exec = Jvm.exec) (hb : c.code = xC X) : me_rule el X v N (me_JW p l e R s m args below meth c Q G nL sz0 sl0 H0 N) 28 := by
  intro pc ls st M x y z d kk
  exact ⟨kk.1, kk.2.1, fun H locs la a1 a2 a3 a4 a5 a6 a7 => lv_dup_x2 hx hb d (me_cat x) (me_cat y) (me_cat z) (kk.2.2 H locs la a1 a2 a3 a4 a5 a6 a7)⟩
theorem so_dup2 (hx : p.tables.exec = Jvm.exec) (hb : c.code = xC X) : me_rule el X v N (me_JW p l e R s m args below meth c Q G nL sz0 sl0 H0 N) 29 := by
  intro pc ls st M x y d kk
  exact ⟨kk.1, kk.2.1, fun H locs la a1 a2 a3 a4 a5 a6 a7 => lv_dup2_11 hx hb d (me_cat x) (me_cat y) (kk.2.2 H locs la a1 a2 a3 a4 a5 a6 a7)⟩
theorem so_if_eq (hx : p.tables.exec = Jvm.exec) (hb : c.code = xC X) : me_rule el X v N (me_JW p l e R s m args below meth c Q G nL sz0 sl0 H0 N) 30 := by
  intro pc ls st M x off tgt d ht kt kf
  refine ⟨?_, ?_, fun H locs la a1 a2 a3 a4 a5 a6 a7 => ?_⟩
  · by_cases hg : x = 0
    · exact (kt hg).1
    · exact (kf hg).1
  · by_cases hg : x = 0
    · exact (kt hg).2.1
    · exact (kf hg).2.1
  · exact lv_if_eq hx hb d ht (fun h => (kt h).2.2 H locs la a1 a2 a3 a4 a5 a6 a7) (fun h => (kf h).2.2 H locs la a1 a2 a3 a4 a5 a6 a7)
theorem so_icmp_eq (hx : p.tables.exec = Jvm.exec) (hb : c.code = xC X) : me_rule el X v N (me_JW p l e R s m args below meth c Q G nL sz0 sl0 H0 N) 36 := by
  intro pc ls st M x y off tgt d ht kt kf
  refine ⟨?_, ?_, fun H locs la a1 a2 a3 a4 a5 a6 a7 => ?_⟩
  · by_cases hg : x = y
    · exact (kt hg).1
    · exact (kf hg).1
  · by_cases hg : x = y
    · exact (kt hg).2.1
    · exact (kf hg).2.1
  · exact lv_icmp_eq hx hb d ht (fun h => (kt h).2.2 H locs la a1 a2 a3 a4 a5 a6 a7) (fun h => (kf h).2.2 H locs la a1 a2 a3 a4 a5 a6 a7)
theorem so_if_ne (hx : p.tables.exec = Jvm.exec) (hb : c.code = xC X) : me_rule el X v N (me_JW p l e R s m args below meth c Q G nL sz0 sl0 H0 N) 31 := by
  intro pc ls st M x off tgt d ht kt kf
  refine ⟨?_, ?_, fun H locs la a1 a2 a3 a4 a5 a6 a7 => ?_⟩
  · by_cases hg : x = 0
    · exact (kf hg).1
    · exact (kt hg).1
  · by_cases hg : x = 0
    · exact (kf hg).2.1
    · exact (kt hg).2.1
  · exact lv_if_ne hx hb d ht (fun h => (kt h).2.2 H locs la a1 a2 a3 a4 a5 a6 a7) (fun h => (kf h).2.2 H locs la a1 a2 a3 a4 a5 a6 a7)
theorem so_icmp_ne (hx : p.tables.exec = Jvm.exec) (hb : c.code = xC X) : me_rule el X v N (me_JW p l e R s m args below meth c Q G nL sz0 sl0 H0 N) 37 := by
  intro pc ls st M x y off tgt d ht kt kf
  refine ⟨?_, ?_, fun H locs la a1 a2 a3 a4 a5 a6 a7 => ?_⟩
  · by_cases hg : x = y
    · exact (kf hg).1
    · exact (kt hg).1
  · by_cases hg : x = y
    · exact (kf hg).2.1
    · exact (kt hg).2.1
  · exact lv_icmp_ne hx hb d ht (fun h => (kt h).2.2 H locs la a1 a2 a3 a4 a5 a6 a7) (fun h => (kf h).2.2 H locs la a1 a2 a3 a4 a5 a6 a7)
theorem so_if_lt (hx : p.tables.exec = Jvm.exec) (hb : c.code = xC X) : me_rule el X v N (me_JW p l e R s m args below meth c Q G nL sz0 sl0 H0 N) 32 := by
  intro pc ls st M x off tgt d ht kt kf
  refine ⟨?_, ?_, fun H locs la a1 a2 a3 a4 a5 a6 a7 => ?_⟩
  · by_cases hg : x < 0
    · exact (kt hg).1
    · exact (kf hg).1
  · by_cases hg : x < 0
    · exact (kt hg).2.1
    · exact (kf hg).2.1
  · exact lv_if_lt hx hb d ht (fun h => (kt h).2.2 H locs la a1 a2 a3 a4 a5 a6 a7) (fun h => (kf h).2.2 H locs la a1 a2 a3 a4 a5 a6 a7)
theorem so_icmp_lt (hx : p.tables.exec = Jvm.exec) (hb : c.code = xC X) : me_rule el X v N (me_JW p l e R s m args below meth c Q G nL sz0 sl0 H0 N) 38 := by
  intro pc ls st M x y off tgt d ht kt kf
  refine ⟨?_, ?_, fun H locs la a1 a2 a3 a4 a5 a6 a7 => ?_⟩
  · by_cases hg : x < y
    · exact (kt hg).1
    · exact (kf hg).1
  · by_cases hg : x < y
    · exact (kt hg).2.1
    · exact (kf hg).2.1
  · exact lv_icmp_lt hx hb d ht (fun h => (kt h).2.2 H locs la a1 a2 a3 a4 a5 a6 a7) (fun h => (kf h).2.2 H locs la a1 a2 a3 a4 a5 a6 a7)
theorem so_if_ge (hx : p.tables.exec = Jvm.exec) (hb : c.code = xC X) : me_rule el X v N (me_JW p l e R s m args below meth c Q G nL sz0 sl0 H0 N) 33 := by
  intro pc ls st M x off tgt d ht kt kf
  refine ⟨?_, ?_, fun H locs la a1 a2 a3 a4 a5 a6 a7 => ?_⟩
  · by_cases hg : 0 ≤ x
    · exact (kt hg).1
    · exact (kf hg).1
  · by_cases hg : 0 ≤ x
    · exact (kt hg).2.1
    · exact (kf hg).2.1
  · exact lv_if_ge hx hb d ht (fun h => (kt h).2.2 H locs la a1 a2 a3 a4 a5 a6 a7) (fun h => (kf h).2.2 H locs la a1 a2 a3 a4 a5 a6 a7)
theorem so_icmp_ge (hx : p.tables.exec = Jvm.exec) (hb : c.code = xC X) : me_rule el X v N (me_JW p l e R s m args below meth c Q G nL sz0 sl0 H0 N) 39 := by
  intro pc ls st M x y off tgt d ht kt kf
  refine ⟨?_, ?_, fun H locs la a1 a2 a3 a4 a5 a6 a7 => ?_⟩
  · by_cases hg : y ≤ x
    · exact (kt hg).1
    · exact (kf hg).1
  · by_cases hg : y ≤ x
    · exact (kt hg).2.1
    · exact (kf hg).2.1
  · exact lv_icmp_ge hx hb d ht (fun h => (kt h).2.2 H locs la a1 a2 a3 a4 a5 a6 a7) (fun h => (kf h).2.2 H locs la a1 a2 a3 a4 a5 a6 a7)
theorem so_if_gt (hx : p.tables.exec = Jvm.exec) (hb : c.code = xC X) : me_rule el X v N (me_JW p l e R s m args below meth c Q G nL sz0 sl0 H0 N) 34 := by
  intro pc ls st M x off tgt d ht kt kf
  refine ⟨?_, ?_, fun H locs la a1 a2 a3 a4 a5 a6 a7 => ?_⟩
  · by_cases hg : 0 < x
    · exact (kt hg).1
    · exact (kf hg).1
  · by_cases hg : 0 < x
    · exact (kt hg).2.1
    · exact (kf hg).2.1
  · exact lv_if_gt hx hb d ht (fun h => (kt h).2.2 H locs la a1 a2 a3 a4 a5 a6 a7) (fun h => (kf h).2.2 H locs la a1 a2 a3 a4 a5 a6 a7)
theorem so_icmp_gt (hx : p.tables.exec = Jvm.exec) (hb : c.code = xC X) : me_rule el X v N (me_JW p l e R s m args below meth c Q G nL sz0 sl0 H0 N) 40 := by
  intro pc ls st M x y off tgt d ht kt kf
  refine ⟨?_, ?_, fun H locs la a1 a2 a3 a4 a5 a6 a7 => ?_⟩
  · by_cases hg : y < x
    · exact (kt hg).1
    · exact (kf hg).1
  · by_cases hg : y < x
    · exact (kt hg).2.1
    · exact (kf hg).2.1
  · exact lv_icmp_gt hx hb d ht (fun h => (kt h).2.2 H locs la a1 a2 a3 a4 a5 a6 a7) (fun h => (kf h).2.2 H locs la a1 a2 a3 a4 a5 a6 a7)
theorem so_if_le (hx : p.tables.exec = Jvm.exec) (hb : c.code = xC X) : me_rule el X v N (me_JW p l e R s m args below meth c Q G nL sz0 sl0 H0 N) 35 := by
  intro pc ls st M x off tgt d ht kt kf
  refine ⟨?_, ?_, fun H locs la a1 a2 a3 a4 a5 a6 a7 => ?_⟩
  · by_cases hg : x ≤ 0
    · exact (kt hg).1
    · exact (kf hg).1
  · by_cases hg : x ≤ 0
    · exact (kt hg).2.1
    · exact (kf hg).2.1
  · exact lv_if_le hx hb d ht (fun h => (kt h).2.2 H locs la a1 a2 a3 a4 a5 a6 a7) (fun h => (kf h).2.2 H locs la a1 a2 a3 a4 a5 a6 a7)
theorem so_icmp_le (hx : p.tables.exec = Jvm.exec) (hb : c.code = xC X) : me_rule el X v N (me_JW p l e R s m args below meth c Q G nL sz0 sl0 H0 N) 41 := by
  intro pc ls st M x y off tgt d ht kt kf
  refine ⟨?_, ?_, fun H locs la a1 a2 a3 a4 a5 a6 a7 => ?_⟩
  · by_cases hg : x ≤ y
    · exact (kt hg).1
    · exact (kf hg).1
  · by_cases hg : x ≤ y
    · exact (kt hg).2.1
    · exact (kf hg).2.1
  · exact lv_icmp_le hx hb d ht (fun h => (kt h).2.2 H locs la a1 a2 a3 a4 a5 a6 a7) (fun h => (kf h).2.2 H locs la a1 a2 a3 a4 a5 a6 a7)
theorem so_acmp_eq (hx : p.tables.exec = Jvm.exec) (hb : c.code = xC X) : me_rule el X v N (me_JW p l e R s m args below meth c Q G nL sz0 sl0 H0 N) 42 := by
  intro pc ls st M x y off tgt d ht kt kf
  refine ⟨?_, ?_, fun H locs la a1 a2 a3 a4 a5 a6 a7 => ?_⟩
  · by_cases hg : x = y
    · exact (kt hg).1
    · exact (kf hg).1
  · by_cases hg : x = y
    · exact (kt hg).2.1
    · exact (kf hg).2.1
  · exact lv_acmp_eq hx hb d ht (fun h => (kt h).2.2 H locs la a1 a2 a3 a4 a5 a6 a7) (fun h => (kf h).2.2 H locs la a1 a2 a3 a4 a5 a6 a7)
theorem so_acmp_ne (hx : p.tables.exec = Jvm.exec) (hb : c.code = xC X) : me_rule el X v N (me_JW p l e R s m args below meth c Q G nL sz0 sl0 H0 N) 43 := by
  intro pc ls st M x y off tgt d ht kt kf
  refine ⟨?_, ?_, fun H locs la a1 a2 a3 a4 a5 a6 a7 => ?_⟩
  · by_cases hg : x = y
    · exact (kf hg).1
    · exact (kt hg).1
  · by_cases hg : x = y
    · exact (kf hg).2.1
    · exact (kt hg).2.1
  · exact lv_acmp_ne hx hb d ht (fun h => (kt h).2.2 H locs la a1 a2 a3 a4 a5 a6 a7) (fun h => (kf h).2.2 H locs la a1 a2 a3 a4 a5 a6 a7)
theorem so_ifnull (hx : p.tables.exec = Jvm.exec) (hb : c.code = xC X) : me_rule el X v N (me_JW p l e R s m args below meth c Q G nL sz0 sl0 H0 N) 44 := by
  intro pc ls st M x off tgt d ht kt kf
  refine ⟨?_, ?_, fun H locs la a1 a2 a3 a4 a5 a6 a7 => ?_⟩
  · by_cases hg : x = none
    · exact (kt hg).1
    · exact (kf hg).1
  · by_cases hg : x = none
    · exact (kt hg).2.1
    · exact (kf hg).2.1
  · cases x with
    | none => exact lv_ifnullN hx hb d ht ((kt rfl).2.2 H locs la a1 a2 a3 a4 a5 a6 a7)
    | some a => exact lv_ifnull hx hb d ((kf (fun z => by cases z)).2.2 H locs la a1 a2 a3 a4 a5 a6 a7)
theorem so_ifnonnull (hx : p.tables.exec = Jvm.exec) (hb : c.code = xC X) : me_rule el X v N (me_JW p l e R s m args below meth c Q G nL sz0 sl0 H0 N) 45 := by
  intro pc ls st M x off tgt d ht kt kf
  refine ⟨?_, ?_, fun H locs la a1 a2 a3 a4 a5 a6 a7 => ?_⟩
  · by_cases hg : x = none
    · exact (kf hg).1
    · exact (kt hg).1
  · by_cases hg : x = none
    · exact (kf hg).2.1
    · exact (kt hg).2.1
  · cases x with
    | none => exact lv_ifnonnullN hx hb d ((kf rfl).2.2 H locs la a1 a2 a3 a4 a5 a6 a7)
    | some a => exact lv_ifnonnull hx hb d ht ((kt (fun z => by cases z)).2.2 H locs la a1 a2 a3 a4 a5 a6 a7)
theorem me_dr {la : Array Slot} {nL : Nat} {ls : List (Option me_V)} {k : Nat} (h : lv_has la nL (me_lv ls)) : lv_has la nL (me_lv (ls.set k none)) := by
  refine ⟨h.1, h.2.1, fun q hq => ?_⟩
  obtain ⟨j, w⟩ := q
  obtain ⟨y, hy, rfl⟩ := me_lv_mem.mp hq
  rw [List.getElem?_set] at hy
  by_cases hj : k = j
  · rw [if_pos hj] at hy
    split at hy <;> cases hy
  · rw [if_neg hj] at hy
    exact h.2.2 _ (me_lv_mem.mpr ⟨y, hy, rfl⟩)
theorem so_drop (_hx : p.tables.exec = Jvm.exec) (_hb : c.code = xC X) : me_rule el X v N (me_JW p l e R s m args below meth c Q G nL sz0 sl0 H0 N) 69 := by
  intro pc ls st M k ls2 hs kk
  refine ⟨kk.1, kk.2.1, fun H locs la a1 a2 a3 a4 a5 a6 a7 => ?_⟩
  subst hs
  exact kk.2.2 H locs la a1 a2 a3 a4 a5 (me_dr a6) (by rw [List.length_set]; exact a7)
theorem so_goto (hx : p.tables.exec = Jvm.exec) (hb : c.code = xC X) : me_rule el X v N (me_JW p l e R s m args below meth c Q G nL sz0 sl0 H0 N) 46 := by
  intro pc ls st M off tgt d ht kk
  exact ⟨kk.1, kk.2.1, fun H locs la a1 a2 a3 a4 a5 a6 a7 => lv_goto hx hb d ht (kk.2.2 H locs la a1 a2 a3 a4 a5 a6 a7)⟩
theorem so_tabIn (hx : p.tables.exec = Jvm.exec) (hb : c.code = xC X) : me_rule el X v N (me_JW p l e R s m args below meth c Q G nL sz0 sl0 H0 N) 47 := by
  intro pc ls st M x dflt lo hi offs len off tgt d h1 h2 ho ht kk
  exact ⟨kk.1, kk.2.1, fun H locs la a1 a2 a3 a4 a5 a6 a7 => lv_tableIn hx hb d h1 h2 ho ht (kk.2.2 H locs la a1 a2 a3 a4 a5 a6 a7)⟩
theorem so_tabOut (hx : p.tables.exec = Jvm.exec) (hb : c.code = xC X) : me_rule el X v N (me_JW p l e R s m args below meth c Q G nL sz0 sl0 H0 N) 48 := by
  intro pc ls st M x dflt lo hi offs len tgt d h ht kk
  exact ⟨kk.1, kk.2.1, fun H locs la a1 a2 a3 a4 a5 a6 a7 => lv_tableOut hx hb d h ht (kk.2.2 H locs la a1 a2 a3 a4 a5 a6 a7)⟩
theorem so_lookup (hx : p.tables.exec = Jvm.exec) (hb : c.code = xC X) : me_rule el X v N (me_JW p l e R s m args below meth c Q G nL sz0 sl0 H0 N) 49 := by
  intro pc ls st M x dflt ps len off tgt d hp ho ht kk
  exact ⟨kk.1, kk.2.1, fun H locs la a1 a2 a3 a4 a5 a6 a7 => lv_lookup hx hb d hp ho ht (kk.2.2 H locs la a1 a2 a3 a4 a5 a6 a7)⟩
/-- what the tables say of a method's fields -/
def me_TF (G : me_G) (own : String) (args : Array Value) (s : State) (fi : Prop) (tab : Nat → Option (Nat × Nat × Nat × Nat)) : Prop := ∀ idx ci k key ty, tab idx = some (ci, k, key, ty) → ci < 99 ∧ key = 1000 + 64 * ci + k ∧ ty = gF G ci k ∧ ∃ r : vw_C, (gC G)[ci]? = some r ∧ k < r.2.2 ∧
  (∀ w ∈ u_ws r.1 r.2.1 r.2.2, w.before args s = true) ∧ (r.2.1 k).1 = r.1 ∧ (Cond.fieldLink own idx r.1 (r.2.1 k).2.1 (r.2.1 k).2.2.1).before args s = true ∧ ((r.2.1 k).2.2.2 = true → fi → r.1 = own)
def me_ty (t : FieldType) (n : Nat) : Prop := (n = 0 ∧ t = .int) ∨ (n = 1 ∧ t = .boolean) ∨ (n = 2 ∧ ((∃ a, t = .object a) ∨ ∃ a, t = .array a))
def me_CL (G : me_G) : Prop := ∀ (ci : Nat) (r : vw_C), (gC G)[ci]? = some r → (∀ a, a < r.2.2 → ∀ b, b < r.2.2 → a ≠ b → (r.2.1 a).2.1 ≠ (r.2.1 b).2.1) ∧ ∃ ty : Nat → FieldType, (∀ k, k < r.2.2 → parseFieldDescriptor (r.2.1 k).2.2.1 = some (ty k)) ∧ ∀ k, k < r.2.2 → me_ty (ty k) (gF G ci k)

theorem so_getI (hx : p.tables.exec = Jvm.exec) (hb : c.code = xC X) (hown : s.vm.findClass own = some m.cls) (hK : va_K (gD G) (gC G) (gT G) s) (hT : me_TF G own args s False (xF X)) : me_rule el X v N (me_JW p l e R s m args below meth c Q G nL sz0 sl0 H0 N) 50 := by
  intro pc ls st M q idx ci k key ty d hf ht hk kk
  refine ⟨kk.1, kk.2.1, fun H locs la a1 a2 a3 a4 a5 a6 a7 => ?_⟩
  obtain ⟨t1, t2, t3, r, t4, t5, t6, t7, t8, -⟩ := hT _ _ _ _ _ hf
  obtain ⟨r', b1, cell, q1, q2, q3, q4⟩ := (a3.2.1 q).1 ci hk t1
  cases t4.symm.trans b1
  obtain ⟨hS, hfc, kC, hkC, hkind⟩ := hK.1 ci _ t4
  obtain ⟨cf, kf, fi, f, hi, hsl⟩ := hS k t5
  have hst := (u_facts hfc hkC (u_lays t6 (fun w h => h) t5) hi).1
  rw [t7] at hi
  refine W.getf hx hb hown t8 hi hst q1 (by rw [q3]; exact fun h => by cases h) (v := .int (mI M key q 0)) ?_ rfl rfl d (kk.2.2 H locs la a1 a2 a3 a4 a5 a6 a7)
  rw [hsl, q4 k t5]
  show some (me_v (me_fv G M ci k q)) = _
  unfold me_fv
  subst t2
  rw [if_neg (by rw [← t3]; exact ht)]
theorem so_getR (hx : p.tables.exec = Jvm.exec) (hb : c.code = xC X) (hown : s.vm.findClass own = some m.cls) (hK : va_K (gD G) (gC G) (gT G) s) (hT : me_TF G own args s False (xF X)) : me_rule el X v N (me_JW p l e R s m args below meth c Q G nL sz0 sl0 H0 N) 51 := by
  intro pc ls st M q idx ci k key d hf hk kk
  refine ⟨kk.1, kk.2.1, fun H locs la a1 a2 a3 a4 a5 a6 a7 => ?_⟩
  obtain ⟨t1, t2, t3, r, t4, t5, t6, t7, t8, -⟩ := hT _ _ _ _ _ hf
  obtain ⟨r', b1, cell, q1, q2, q3, q4⟩ := (a3.2.1 q).1 ci hk t1
  cases t4.symm.trans b1
  obtain ⟨hS, hfc, kC, hkC, hkind⟩ := hK.1 ci _ t4
  obtain ⟨cf, kf, fi, f, hi, hsl⟩ := hS k t5
  have hst := (u_facts hfc hkC (u_lays t6 (fun w h => h) t5) hi).1
  rw [t7] at hi
  refine W.getf hx hb hown t8 hi hst q1 (by rw [q3]; exact fun h => by cases h) (v := va_rf (mR M key q 0)) ?_ rfl rfl d (kk.2.2 H locs la a1 a2 a3 a4 a5 a6 a7)
  rw [hsl, q4 k t5]
  show some (me_v (me_fv G M ci k q)) = _
  unfold me_fv
  subst t2
  rw [if_pos t3.symm]
theorem so_putI (hx : p.tables.exec = Jvm.exec) (hb : c.code = xC X) (hown : s.vm.findClass own = some m.cls) (hK : va_K (gD G) (gC G) (gT G) s) (hCL : me_CL G) (hT : me_TF G own args s True (xG X)) (hT2 : ∀ idx ci k key ty r, xG X idx = some (ci, k, key, ty) → (gC G)[ci]? = some r → (r.2.1 k).2.2.2 = true → meth.name = "<init>") : me_rule el X v N (me_JW p l e R s m args below meth c Q G nL sz0 sl0 H0 N) 52 := by
  intro pc ls st M q idx ci k key x d hf hk kk
  refine ⟨kk.1, kk.2.1, fun H locs la a1 a2 a3 a4 a5 a6 a7 => ?_⟩
  obtain ⟨t1, t2, t3, r, t4, t5, t6, t7, t8, t9⟩ := hT _ _ _ _ _ hf
  obtain ⟨r', b1, cell, q1, q2, q3, q4⟩ := (a3.2.1 q).1 ci hk t1
  cases t4.symm.trans b1
  obtain ⟨hnm, tyf, hty, hty2⟩ := hCL ci r t4
  have hap := va_apart (own := own) (Ts := u_ws r.1 r.2.1 r.2.2) t6 (fun w h => h) tyf hty hnm hK t4
  obtain ⟨hS, hfc, kC, hkC, hkind⟩ := hK.1 ci _ t4
  obtain ⟨cf, kf, fi, f, hi, hsl⟩ := hS k t5
  have hlay := t6 _ (u_in_lay t5)
  have hst := (u_facts hfc hkC (u_lays t6 (fun w h => h) t5) hi).1
  have hnar : narrow (tyf k) (.int x) = .int x ∧ fits (tyf k) (.int x) = true := by
    rcases hty2 k t5 with ⟨h1, h2⟩ | ⟨h1, h2⟩ | ⟨h1, h2⟩
    · rw [h2]; exact ⟨rfl, rfl⟩
    · omega
    · omega
  have fin : ∀ (H1 : Heap) (i0 : Nat), i0 = (gD G).2 ci k → H1[q]? = some (cell.setSlot i0 (.int x)) → H1.size = H.size → (∀ q', q' ≠ q → H1[q']? = H[q']?) → W p l e R s m args below meth c H1 (locs ++ [⟨q, i0⟩]) (mSz M - sz0) (mSl M - sl0) Q (F0 m (pc + 3) la (st.map me_v)) := by
    intro H1 i0 e0 e1 e2 e3
    subst e0
    refine kk.2.2 H1 _ la a1 a2 (a3.write q (by omega) rfl rfl rfl ?_ ?_ e2 e3 ?_) (fun q' hq' => ?_) ?_ a6 a7
    · intro k' q' i' hne; simp [mSetI, mSetR, mI, hne]
    · intro k' q' i' hne; simp [mSetI, mSetR, mR, hne]
    · refine ⟨fun ci' hk' _ => ?_, fun hk' => ?_⟩
      · have hcc : ci' = ci := by
          have h0 : mKd M q = ci' + 1 := hk'
          omega
        subst hcc
        refine ⟨r, t4, t_OB.to (V := updV (fun k => me_v (me_fv G M ci' k q)) k (.int x)) ⟨_, e1, q2, q3, t_set q4 hap t5 _⟩ (fun j hj => ?_)⟩
        subst t2
        by_cases hjk : j = k
        · subst hjk
          simp [updV, me_fv, mSetI, mSetR, mI, mR, ← t3]
        · simp [updV, me_fv, mSetI, mSetR, mI, mR, hjk]
      · have h0 : 100 ≤ mKd M q := hk'
        omega
    · have := a3.2.2.2.1 q (by omega)
      rw [e3 q' (Nat.ne_of_lt (Nat.lt_of_lt_of_le hq' this))]
      exact a4 q' hq'
    · intro q' hq'
      rcases List.mem_append.mp hq' with h | h
      · exact a5 q' h
      · rw [List.mem_singleton.mp h]
        exact a3.2.2.2.1 q (by omega)
  unfold u_lay at hlay
  by_cases hfin : (r.2.1 k).2.2.2 = true
  · rw [if_pos hfin] at hlay
    have hcf : m.cls = cf := by
      obtain ⟨_, _, c', _, _, _, -, -, hf', -, -, -, hown2, -⟩ := Cond.laysFinal_spec hlay
      have z1 : c' = cf := by have := hi.symm.trans hf'; simp at this; exact this.1.symm
      rw [t7, t9 hfin trivial] at hown2
      rw [← z1]; exact Option.some.inj (hown.symm.trans hown2)
    have h6 := u_fits hfc hkC hkind (Or.inr hlay) hi (hty k t5) hnar.1 hnar.2
    rw [t7] at hi
    exact W.putFinK hx hb hown t8 hi hst hcf (hT2 _ _ _ _ _ _ hf t4 hfin) (by rw [q2]; exact h6) q1 q3 (by rw [hsl]; exact k2_hasslot (q4 k t5)) rfl rfl d fun H1 e1 e2 e3 => fin H1 _ hsl e1 e2 e3
  · rw [if_neg hfin] at hlay
    have h6 := u_store hfc hkC hkind hlay hi (hty k t5) hnar.1 hnar.2
    rw [t7] at hi
    exact W.putK hx hb (f := f) ⟨hown, t8, ⟨_, _, _, hi⟩, hst⟩ (by rw [q2]; exact h6) q1 q3 (by rw [hsl]; exact k2_hasslot (q4 k t5)) rfl rfl d fun H1 e1 e2 e3 => fin H1 _ hsl e1 e2 e3
theorem so_putZ (hx : p.tables.exec = Jvm.exec) (hb : c.code = xC X) (hown : s.vm.findClass own = some m.cls) (hK : va_K (gD G) (gC G) (gT G) s) (hCL : me_CL G) (hT : me_TF G own args s True (xG X)) (hT2 : ∀ idx ci k key ty r, xG X idx = some (ci, k, key, ty) → (gC G)[ci]? = some r → (r.2.1 k).2.2.2 = true → meth.name = "<init>") : me_rule el X v N (me_JW p l e R s m args below meth c Q G nL sz0 sl0 H0 N) 53 := by
  intro pc ls st M q idx ci k key x d hf hk hz kk
  refine ⟨kk.1, kk.2.1, fun H locs la a1 a2 a3 a4 a5 a6 a7 => ?_⟩
  obtain ⟨t1, t2, t3, r, t4, t5, t6, t7, t8, t9⟩ := hT _ _ _ _ _ hf
  obtain ⟨r', b1, cell, q1, q2, q3, q4⟩ := (a3.2.1 q).1 ci hk t1
  cases t4.symm.trans b1
  obtain ⟨hnm, tyf, hty, hty2⟩ := hCL ci r t4
  have hap := va_apart (own := own) (Ts := u_ws r.1 r.2.1 r.2.2) t6 (fun w h => h) tyf hty hnm hK t4
  obtain ⟨hS, hfc, kC, hkC, hkind⟩ := hK.1 ci _ t4
  obtain ⟨cf, kf, fi, f, hi, hsl⟩ := hS k t5
  have hlay := t6 _ (u_in_lay t5)
  have hst := (u_facts hfc hkC (u_lays t6 (fun w h => h) t5) hi).1
  have hnar : narrow (tyf k) (.int x) = .int x ∧ fits (tyf k) (.int x) = true := by
    rcases hty2 k t5 with ⟨h1, h2⟩ | ⟨h1, h2⟩ | ⟨h1, h2⟩
    · omega
    · rw [h2]; rcases hz with rfl | rfl <;> exact ⟨rfl, rfl⟩
    · omega
  have fin : ∀ (H1 : Heap) (i0 : Nat), i0 = (gD G).2 ci k → H1[q]? = some (cell.setSlot i0 (.int x)) → H1.size = H.size → (∀ q', q' ≠ q → H1[q']? = H[q']?) → W p l e R s m args below meth c H1 (locs ++ [⟨q, i0⟩]) (mSz M - sz0) (mSl M - sl0) Q (F0 m (pc + 3) la (st.map me_v)) := by
    intro H1 i0 e0 e1 e2 e3
    subst e0
    refine kk.2.2 H1 _ la a1 a2 (a3.write q (by omega) rfl rfl rfl ?_ ?_ e2 e3 ?_) (fun q' hq' => ?_) ?_ a6 a7
    · intro k' q' i' hne; simp [mSetI, mSetR, mI, hne]
    · intro k' q' i' hne; simp [mSetI, mSetR, mR, hne]
    · refine ⟨fun ci' hk' _ => ?_, fun hk' => ?_⟩
      · have hcc : ci' = ci := by
          have h0 : mKd M q = ci' + 1 := hk'
          omega
        subst hcc
        refine ⟨r, t4, t_OB.to (V := updV (fun k => me_v (me_fv G M ci' k q)) k (.int x)) ⟨_, e1, q2, q3, t_set q4 hap t5 _⟩ (fun j hj => ?_)⟩
        subst t2
        by_cases hjk : j = k
        · subst hjk
          simp [updV, me_fv, mSetI, mSetR, mI, mR, ← t3]
        · simp [updV, me_fv, mSetI, mSetR, mI, mR, hjk]
      · have h0 : 100 ≤ mKd M q := hk'
        omega
    · have := a3.2.2.2.1 q (by omega)
      rw [e3 q' (Nat.ne_of_lt (Nat.lt_of_lt_of_le hq' this))]
      exact a4 q' hq'
    · intro q' hq'
      rcases List.mem_append.mp hq' with h | h
      · exact a5 q' h
      · rw [List.mem_singleton.mp h]
        exact a3.2.2.2.1 q (by omega)
  unfold u_lay at hlay
  by_cases hfin : (r.2.1 k).2.2.2 = true
  · rw [if_pos hfin] at hlay
    have hcf : m.cls = cf := by
      obtain ⟨_, _, c', _, _, _, -, -, hf', -, -, -, hown2, -⟩ := Cond.laysFinal_spec hlay
      have z1 : c' = cf := by have := hi.symm.trans hf'; simp at this; exact this.1.symm
      rw [t7, t9 hfin trivial] at hown2
      rw [← z1]; exact Option.some.inj (hown.symm.trans hown2)
    have h6 := u_fits hfc hkC hkind (Or.inr hlay) hi (hty k t5) hnar.1 hnar.2
    rw [t7] at hi
    exact W.putFinK hx hb hown t8 hi hst hcf (hT2 _ _ _ _ _ _ hf t4 hfin) (by rw [q2]; exact h6) q1 q3 (by rw [hsl]; exact k2_hasslot (q4 k t5)) rfl rfl d fun H1 e1 e2 e3 => fin H1 _ hsl e1 e2 e3
  · rw [if_neg hfin] at hlay
    have h6 := u_store hfc hkC hkind hlay hi (hty k t5) hnar.1 hnar.2
    rw [t7] at hi
    exact W.putK hx hb (f := f) ⟨hown, t8, ⟨_, _, _, hi⟩, hst⟩ (by rw [q2]; exact h6) q1 q3 (by rw [hsl]; exact k2_hasslot (q4 k t5)) rfl rfl d fun H1 e1 e2 e3 => fin H1 _ hsl e1 e2 e3
theorem so_putR (hx : p.tables.exec = Jvm.exec) (hb : c.code = xC X) (hown : s.vm.findClass own = some m.cls) (hK : va_K (gD G) (gC G) (gT G) s) (hCL : me_CL G) (hT : me_TF G own args s True (xG X)) (hT2 : ∀ idx ci k key ty r, xG X idx = some (ci, k, key, ty) → (gC G)[ci]? = some r → (r.2.1 k).2.2.2 = true → meth.name = "<init>") : me_rule el X v N (me_JW p l e R s m args below meth c Q G nL sz0 sl0 H0 N) 54 := by
  intro pc ls st M q idx ci k key x d hf hk kk
  refine ⟨kk.1, kk.2.1, fun H locs la a1 a2 a3 a4 a5 a6 a7 => ?_⟩
  obtain ⟨t1, t2, t3, r, t4, t5, t6, t7, t8, t9⟩ := hT _ _ _ _ _ hf
  obtain ⟨r', b1, cell, q1, q2, q3, q4⟩ := (a3.2.1 q).1 ci hk t1
  cases t4.symm.trans b1
  obtain ⟨hnm, tyf, hty, hty2⟩ := hCL ci r t4
  have hap := va_apart (own := own) (Ts := u_ws r.1 r.2.1 r.2.2) t6 (fun w h => h) tyf hty hnm hK t4
  obtain ⟨hS, hfc, kC, hkC, hkind⟩ := hK.1 ci _ t4
  obtain ⟨cf, kf, fi, f, hi, hsl⟩ := hS k t5
  have hlay := t6 _ (u_in_lay t5)
  have hst := (u_facts hfc hkC (u_lays t6 (fun w h => h) t5) hi).1
  have hnar : narrow (tyf k) (va_rf x) = va_rf x ∧ fits (tyf k) (va_rf x) = true := by
    rcases hty2 k t5 with ⟨h1, h2⟩ | ⟨h1, h2⟩ | ⟨h1, h2⟩
    · omega
    · omega
    · rcases h2 with ⟨a, h2⟩ | ⟨a, h2⟩ <;> rw [h2] <;> cases x <;> exact ⟨rfl, rfl⟩
  have fin : ∀ (H1 : Heap) (i0 : Nat), i0 = (gD G).2 ci k → H1[q]? = some (cell.setSlot i0 (va_rf x)) → H1.size = H.size → (∀ q', q' ≠ q → H1[q']? = H[q']?) → W p l e R s m args below meth c H1 (locs ++ [⟨q, i0⟩]) (mSz M - sz0) (mSl M - sl0) Q (F0 m (pc + 3) la (st.map me_v)) := by
    intro H1 i0 e0 e1 e2 e3
    subst e0
    refine kk.2.2 H1 _ la a1 a2 (a3.write q (by omega) rfl rfl rfl ?_ ?_ e2 e3 ?_) (fun q' hq' => ?_) ?_ a6 a7
    · intro k' q' i' hne; simp [mSetI, mSetR, mI, hne]
    · intro k' q' i' hne; simp [mSetI, mSetR, mR, hne]
    · refine ⟨fun ci' hk' _ => ?_, fun hk' => ?_⟩
      · have hcc : ci' = ci := by
          have h0 : mKd M q = ci' + 1 := hk'
          omega
        subst hcc
        refine ⟨r, t4, t_OB.to (V := updV (fun k => me_v (me_fv G M ci' k q)) k (va_rf x)) ⟨_, e1, q2, q3, t_set q4 hap t5 _⟩ (fun j hj => ?_)⟩
        subst t2
        by_cases hjk : j = k
        · subst hjk
          simp [updV, me_fv, mSetI, mSetR, mI, mR, ← t3]
        · simp [updV, me_fv, mSetI, mSetR, mI, mR, hjk]
      · have h0 : 100 ≤ mKd M q := hk'
        omega
    · have := a3.2.2.2.1 q (by omega)
      rw [e3 q' (Nat.ne_of_lt (Nat.lt_of_lt_of_le hq' this))]
      exact a4 q' hq'
    · intro q' hq'
      rcases List.mem_append.mp hq' with h | h
      · exact a5 q' h
      · rw [List.mem_singleton.mp h]
        exact a3.2.2.2.1 q (by omega)
  unfold u_lay at hlay
  by_cases hfin : (r.2.1 k).2.2.2 = true
  · rw [if_pos hfin] at hlay
    have hcf : m.cls = cf := by
      obtain ⟨_, _, c', _, _, _, -, -, hf', -, -, -, hown2, -⟩ := Cond.laysFinal_spec hlay
      have z1 : c' = cf := by have := hi.symm.trans hf'; simp at this; exact this.1.symm
      rw [t7, t9 hfin trivial] at hown2
      rw [← z1]; exact Option.some.inj (hown.symm.trans hown2)
    have h6 := u_fits hfc hkC hkind (Or.inr hlay) hi (hty k t5) hnar.1 hnar.2
    rw [t7] at hi
    exact W.putFinK hx hb hown t8 hi hst hcf (hT2 _ _ _ _ _ _ hf t4 hfin) (by rw [q2]; exact h6) q1 q3 (by rw [hsl]; exact k2_hasslot (q4 k t5)) rfl rfl d fun H1 e1 e2 e3 => fin H1 _ hsl e1 e2 e3
  · rw [if_neg hfin] at hlay
    have h6 := u_store hfc hkC hkind hlay hi (hty k t5) hnar.1 hnar.2
    rw [t7] at hi
    exact W.putK hx hb (f := f) ⟨hown, t8, ⟨_, _, _, hi⟩, hst⟩ (by rw [q2]; exact h6) q1 q3 (by rw [hsl]; exact k2_hasslot (q4 k t5)) rfl rfl d fun H1 e1 e2 e3 => fin H1 _ hsl e1 e2 e3
theorem me_dflt {t : FieldType} {n : Nat} (h : me_ty t n) : defaultValue t = if n = 2 then .null else .int 0 := by
  rcases h with ⟨rfl, rfl⟩ | ⟨rfl, rfl⟩ | ⟨rfl, ⟨a, rfl⟩ | ⟨a, rfl⟩⟩ <;> rfl
def me_TN (G : me_G) (own : String) (args : Array Value) (s : State) (tab : Nat → Option (Nat × Nat)) : Prop := ∀ idx ci n, tab idx = some (ci, n) → ci < 99 ∧ ∃ r : vw_C, (gC G)[ci]? = some r ∧ r.2.2 = n ∧ (∀ w ∈ u_ws r.1 r.2.1 r.2.2, w.before args s = true) ∧
  (Cond.classLink own idx r.1).before args s = true ∧ (Cond.instantiable r.1 n).before args s = true ∧ (Cond.initialized r.1).before args s = true
theorem so_new (hx : p.tables.exec = Jvm.exec) (hb : c.code = xC X) (hown : s.vm.findClass own = some m.cls) (hK : va_K (gD G) (gC G) (gT G) s) (hCL : me_CL G) (hRc : mSz N - sz0 ≤ R.cells) (hRs : mSl N - sl0 ≤ R.slots) (hT : me_TN G own args s (xN X)) : me_rule el X v N (me_JW p l e R s m args below meth c Q G nL sz0 sl0 H0 N) 55 := by
  intro pc ls st M idx ci n d hf kk
  have k1 : mSz M + 1 ≤ mSz N := kk.1
  have k2 : mSl M + n ≤ mSl N := kk.2.1
  refine ⟨by omega, by omega, fun H locs la a1 a2 a3 a4 a5 a6 a7 => ?_⟩
  obtain ⟨t1, r, t4, t5, t6, t7, t8, t9⟩ := hT _ _ _ hf
  obtain ⟨hnm, tyf, hty, hty2⟩ := hCL ci r t4
  have hKn := hK.1 ci _ t4
  refine W.newcK hx hb hown t7 t8 t9 rfl d (by omega) (by omega) hKn.2.1 a3.1 fun H1 kC hkC e1 z1 o1 => ?_
  refine W.cs (cells' := mSz (mNew M (ci + 1) 0 n) - sz0) (slots' := mSl (mNew M (ci + 1) 0 n) - sl0) (by rw [mSz_New]; omega) (by rw [mSl_New]; omega) ?_
  refine kk.2.2 H1 locs la (by rw [mSz_New]; omega) (by rw [mSl_New]; omega) (a3.made (ci + 1) 0 n (by rw [z1, a3.1]) (fun q' h => o1 q' (by rw [← a3.1]; exact h)) ⟨fun ci' h' _ => ?_, fun h' => ?_⟩) (fun q' hq' => ?_) a5 a6 a7
  · have h0 : ci' = ci := by
      rw [mKd_New, if_pos rfl] at h'
      omega
    subst h0
    refine ⟨r, t4, (u_born tyf t6 (fun w h => h) hKn hkC e1 hty).to fun k hk => ?_⟩
    obtain ⟨-, hfr⟩ := a3.2.2.1 (mSz M) (Nat.le_refl _)
    rw [me_dflt (hty2 k hk)]
    unfold me_fv
    rw [mR_New, mI_New, (hfr _ 0).1, (hfr _ 0).2]
    split <;> rfl
  · rw [mKd_New, if_pos rfl] at h'
    omega
  · have := a3.2.2.2.2
    rw [o1 q' (by omega)]
    exact a4 q' hq'
/-- the array types: int, boolean, then references to objects of a class of the list -/
def me_AT (G : me_G) (el : Nat → Nat) : Prop := (∃ c0, (gT G)[0]? = some (c0, .int)) ∧ (∃ c1, (gT G)[1]? = some (c1, .boolean)) ∧ ∀ a t, 2 ≤ a → (gT G)[a]? = some t → ∃ (ci : Nat) (r : vw_C), ci < 99 ∧ el (100 + a) = ci + 1 ∧ (gC G)[ci]? = some r ∧ t.2 = .object r.1
end SND
end
section
section SND
variable {p : Program} {l : Launch} {e : Env} {R : Room} {s : State} {m : MethodId} {args : Array Value} {below : List Frame} {meth : Method} {c : Code} {Q : State → Prop}
variable {G : me_G} {nL sz0 sl0 : Nat} {H0 : Heap} {X : me_X} {v : Option me_V} {N : me_M} {el : Nat → Nat} {own : String}

theorem so_newI (hx : p.tables.exec = Jvm.exec) (hb : c.code = xC X) (hK : va_K (gD G) (gC G) (gT G) s) (hAT : me_AT G el) (hRc : mSz N - sz0 ≤ R.cells) (hRs : mSl N - sl0 ≤ R.slots) (hT : xA X 70000 = some 100 → (Cond.arrayClass .int).before args s = true) : me_rule el X v N (me_JW p l e R s m args below meth c Q G nL sz0 sl0 H0 N) 56 := by
  intro pc ls st M n d hf hn hb2 kk
  have k1 : mSz M + 1 ≤ mSz N := kk.1
  have k2 : mSl M + n.toNatClampNeg ≤ mSl N := kk.2.1
  refine ⟨by omega, by omega, fun H locs la a1 a2 a3 a4 a5 a6 a7 => ?_⟩
  obtain ⟨c0, hc0⟩ := hAT.1
  refine va_newaK (atype := .int) hx hb (hT hf) rfl d rfl hn rfl (by have hcb : componentBytes (newarray.typeOf .int) = 4 := rfl; rw [hcb]; omega) (by omega) (by omega) a3.1 fun H1 cA e1 z1 o1 hAr hNm => ?_
  have hcc : cA = c0 := by
    have h := (hK.2 0 _ hc0).2
    unfold va_RA at h
    dsimp only at h
    simp only [newarray.typeOf] at hNm
    rw [hNm] at h
    exact Option.some.inj h
  subst hcc
  refine W.cs (cells' := mSz (mNew M 100 n.toNatClampNeg n.toNatClampNeg) - sz0) (slots' := mSl (mNew M 100 n.toNatClampNeg n.toNatClampNeg) - sl0) (by rw [mSz_New]; omega) (by rw [mSl_New]; omega) ?_
  refine kk.2.2 H1 locs la (by rw [mSz_New]; omega) (by rw [mSl_New]; omega) (a3.made 100 n.toNatClampNeg n.toNatClampNeg (by rw [z1, a3.1]) (fun q' h => o1 q' (by rw [← a3.1]; exact h)) ⟨fun ci' h' h2' => ?_, fun h' => ?_⟩) (fun q' hq' => ?_) a5 a6 a7
  · rw [mKd_New, if_pos rfl] at h'
    omega
  · refine ⟨_, (show (gT G)[mKd (mNew M 100 n.toNatClampNeg n.toNatClampNeg) (mSz M) - 100]? = some (cA, .int) from ?_), ?_⟩
    · rw [mKd_New, if_pos rfl]; exact hc0
    · rw [e1, mLn_New, if_pos rfl, mKd_New, if_pos rfl]
      obtain ⟨-, hfr⟩ := a3.2.2.1 (mSz M) (Nat.le_refl _)
      congr 2
      funext j
      unfold me_av
      rw [mI_New, (hfr _ j).1]
      rfl
  · have := a3.2.2.2.2
    rw [o1 q' (by omega)]
    exact a4 q' hq'
theorem so_newZ (hx : p.tables.exec = Jvm.exec) (hb : c.code = xC X) (hK : va_K (gD G) (gC G) (gT G) s) (hAT : me_AT G el) (hRc : mSz N - sz0 ≤ R.cells) (hRs : mSl N - sl0 ≤ R.slots) (hT : xA X 70001 = some 101 → (Cond.arrayClass .boolean).before args s = true) : me_rule el X v N (me_JW p l e R s m args below meth c Q G nL sz0 sl0 H0 N) 57 := by
  intro pc ls st M n d hf hn hb2 kk
  have k1 : mSz M + 1 ≤ mSz N := kk.1
  have k2 : mSl M + n.toNatClampNeg ≤ mSl N := kk.2.1
  refine ⟨by omega, by omega, fun H locs la a1 a2 a3 a4 a5 a6 a7 => ?_⟩
  obtain ⟨c0, hc0⟩ := hAT.2.1
  refine va_newaK (atype := .boolean) hx hb (hT hf) rfl d rfl hn rfl (by have hcb : componentBytes (newarray.typeOf .boolean) = 1 := rfl; rw [hcb]; omega) (by omega) (by omega) a3.1 fun H1 cA e1 z1 o1 hAr hNm => ?_
  have hcc : cA = c0 := by
    have h := (hK.2 1 _ hc0).2
    unfold va_RA at h
    dsimp only at h
    simp only [newarray.typeOf] at hNm
    rw [hNm] at h
    exact Option.some.inj h
  subst hcc
  refine W.cs (cells' := mSz (mNew M 101 n.toNatClampNeg n.toNatClampNeg) - sz0) (slots' := mSl (mNew M 101 n.toNatClampNeg n.toNatClampNeg) - sl0) (by rw [mSz_New]; omega) (by rw [mSl_New]; omega) ?_
  refine kk.2.2 H1 locs la (by rw [mSz_New]; omega) (by rw [mSl_New]; omega) (a3.made 101 n.toNatClampNeg n.toNatClampNeg (by rw [z1, a3.1]) (fun q' h => o1 q' (by rw [← a3.1]; exact h)) ⟨fun ci' h' h2' => ?_, fun h' => ?_⟩) (fun q' hq' => ?_) a5 a6 a7
  · rw [mKd_New, if_pos rfl] at h'
    omega
  · refine ⟨_, (show (gT G)[mKd (mNew M 101 n.toNatClampNeg n.toNatClampNeg) (mSz M) - 100]? = some (cA, .boolean) from ?_), ?_⟩
    · rw [mKd_New, if_pos rfl]; exact hc0
    · rw [e1, mLn_New, if_pos rfl, mKd_New, if_pos rfl]
      obtain ⟨-, hfr⟩ := a3.2.2.1 (mSz M) (Nat.le_refl _)
      congr 2
      funext j
      unfold me_av
      rw [mI_New, (hfr _ j).1]
      rfl
  · have := a3.2.2.2.2
    rw [o1 q' (by omega)]
    exact a4 q' hq'
end SND
end
section
section SND
variable {p : Program} {l : Launch} {e : Env} {R : Room} {s : State} {m : MethodId} {args : Array Value} {below : List Frame} {meth : Method} {c : Code} {Q : State → Prop}
variable {G : me_G} {nL sz0 sl0 : Nat} {H0 : Heap} {X : me_X} {v : Option me_V} {N : me_M} {el : Nat → Nat} {own : String}

def me_TA (G : me_G) (own : String) (args : Array Value) (s : State) (tab : Nat → Option Nat) : Prop := ∀ idx a, tab idx = some a → idx < 70000 → 102 ≤ a ∧ ∃ (C : String) (cA : ClassId), (gT G)[a - 100]? = some (cA, .object C) ∧ (Cond.classLink own idx C).before args s = true ∧ (Cond.arrayOver (.object C)).before args s = true
theorem so_newR (hx : p.tables.exec = Jvm.exec) (hb : c.code = xC X) (hown : s.vm.findClass own = some m.cls) (hK : va_K (gD G) (gC G) (gT G) s) (hRc : mSz N - sz0 ≤ R.cells) (hRs : mSl N - sl0 ≤ R.slots) (hT : me_TA G own args s (xA X)) : me_rule el X v N (me_JW p l e R s m args below meth c Q G nL sz0 sl0 H0 N) 58 := by
  intro pc ls st M n idx a d hf hi hn hb2 kk
  have k1 : mSz M + 1 ≤ mSz N := kk.1
  have k2 : mSl M + n.toNatClampNeg ≤ mSl N := kk.2.1
  refine ⟨by omega, by omega, fun H locs la a1 a2 a3 a4 a5 a6 a7 => ?_⟩
  obtain ⟨t1, C, c0, hc0, t2, t3⟩ := hT _ _ hf hi
  refine W.anew hx hb hown t2 t3 rfl d rfl hn (by omega) (by omega) (by omega) fun cA kA comp f1 f2 f3 f4 => ?_
  have hcc : cA = c0 := by
    obtain ⟨kA', comp', g1, g2, g3, g4⟩ := (hK.2 _ _ hc0).2
    exact Option.some.inj (f1.symm.trans g4)
  subst hcc
  generalize hH1 : H.push ({ cls := cA, slots := Array.replicate n.toNatClampNeg .null, vm := .none } : Cell) = H1
  have z1 : H1.size = H.size + 1 := by rw [← hH1, Array.size_push]
  have e1 : H1[H.size]? = some (arrV cA n.toNatClampNeg (fun _ => .null)) := by rw [← hH1, Array.getElem?_push_size, ← arrV_new]
  have o1 : ∀ q', q' < H.size → H1[q']? = H[q']? := by
    intro q' hq'
    rw [← hH1, Array.getElem?_push, if_neg (Nat.ne_of_lt hq')]
  rw [a3.1] at e1
  refine W.eq (g2 := F0 m (pc + 3) la (.ref (mSz M) :: st.map me_v)) (by rw [a3.1]) ?_
  refine W.cs (cells' := mSz (mNew M a n.toNatClampNeg n.toNatClampNeg) - sz0) (slots' := mSl (mNew M a n.toNatClampNeg n.toNatClampNeg) - sl0) (by rw [mSz_New]; omega) (by rw [mSl_New]; omega) ?_
  refine kk.2.2 H1 locs la (by rw [mSz_New]; omega) (by rw [mSl_New]; omega) (a3.made a n.toNatClampNeg n.toNatClampNeg z1 o1 ⟨fun ci' h' h2' => ?_, fun h' => ?_⟩) (fun q' hq' => ?_) a5 a6 a7
  · rw [mKd_New, if_pos rfl] at h'
    omega
  · refine ⟨_, (show (gT G)[mKd (mNew M a n.toNatClampNeg n.toNatClampNeg) (mSz M) - 100]? = some (cA, .object C) from ?_), ?_⟩
    · rw [mKd_New, if_pos rfl]; exact hc0
    · rw [e1, mLn_New, if_pos rfl, mKd_New, if_pos rfl]
      obtain ⟨-, hfr⟩ := a3.2.2.1 (mSz M) (Nat.le_refl _)
      congr 2
      funext j
      unfold me_av
      rw [if_pos t1, mR_New, (hfr _ j).2]
      rfl
  · have := a3.2.2.2.2
    rw [o1 q' (by rw [a3.1]; omega)]
    exact a4 q' hq'
/-- an array's cell -/
theorem me_arr (hK : va_K (gD G) (gC G) (gT G) s) {M : me_M} {H : Heap} (h : me_H G M H) {q : Nat} (hq : 100 ≤ mKd M q) : ∃ t : ClassId × FieldType, (gT G)[mKd M q - 100]? = some t ∧ ArrOfT s t.1 t.2 ∧ va_RA s t.1 t.2 ∧ H[q]? = some (arrV t.1 (mLn M q) (fun j => me_v (me_av M (mKd M q) q j))) := by
  obtain ⟨t, h1, h2⟩ := (h.2.1 q).2 hq
  exact ⟨t, h1, (hK.2 _ _ h1).1, (hK.2 _ _ h1).2, h2⟩
theorem so_alen (hx : p.tables.exec = Jvm.exec) (hb : c.code = xC X) (hK : va_K (gD G) (gC G) (gT G) s) : me_rule el X v N (me_JW p l e R s m args below meth c Q G nL sz0 sl0 H0 N) 59 := by
  intro pc ls st M q d hk kk
  refine ⟨kk.1, kk.2.1, fun H locs la a1 a2 a3 a4 a5 a6 a7 => ?_⟩
  obtain ⟨t, h1, h2, h3, h4⟩ := me_arr hK a3 hk
  exact W.alen (n := Int32.ofNat (mLn M q)) hx hb h4 (h2 _ _) (by rw [arrV_size] <;> rfl) rfl rfl d (kk.2.2 H locs la a1 a2 a3 a4 a5 a6 a7)
theorem so_iald (hx : p.tables.exec = Jvm.exec) (hb : c.code = xC X) (hK : va_K (gD G) (gC G) (gT G) s) (hAT : me_AT G el) : me_rule el X v N (me_JW p l e R s m args below meth c Q G nL sz0 sl0 H0 N) 60 := by
  intro pc ls st M q i d hk hi kk
  refine ⟨kk.1, kk.2.1, fun H locs la a1 a2 a3 a4 a5 a6 a7 => ?_⟩
  obtain ⟨t, h1, h2, h3, h4⟩ := me_arr hK a3 (q := q) (by omega)
  obtain ⟨c0, hc0⟩ := hAT.1
  rw [hk] at h1 h4
  cases h1.symm.trans hc0
  have hlt : i.toNatClampNeg < mLn M q := Nat.not_le.mp fun z => hi (Or.inr z)
  exact W.iald (v := .int (mI M 100 q i.toNatClampNeg)) hx hb h4 (h2 _ _) (fun z => by cases z) (by rw [arrV_size]; exact hi) (by rw [arrV_read _ _ hlt]; rfl) rfl rfl d (kk.2.2 H locs la a1 a2 a3 a4 a5 a6 a7)
theorem so_zald (hx : p.tables.exec = Jvm.exec) (hb : c.code = xC X) (hK : va_K (gD G) (gC G) (gT G) s) (hAT : me_AT G el) : me_rule el X v N (me_JW p l e R s m args below meth c Q G nL sz0 sl0 H0 N) 62 := by
  intro pc ls st M q i d hk hi kk
  refine ⟨kk.1, kk.2.1, fun H locs la a1 a2 a3 a4 a5 a6 a7 => ?_⟩
  obtain ⟨t, h1, h2, h3, h4⟩ := me_arr hK a3 (q := q) (by omega)
  obtain ⟨c0, hc0⟩ := hAT.2.1
  rw [hk] at h1 h4
  cases h1.symm.trans hc0
  have hlt : i.toNatClampNeg < mLn M q := Nat.not_le.mp fun z => hi (Or.inr z)
  exact W.zald (v := .int (mI M 101 q i.toNatClampNeg)) hx hb h4 (h2 _ _) (fun z => by cases z) (by rw [arrV_size]; exact hi) (by rw [arrV_read _ _ hlt]; rfl) rfl rfl d (kk.2.2 H locs la a1 a2 a3 a4 a5 a6 a7)
theorem so_iast (hx : p.tables.exec = Jvm.exec) (hb : c.code = xC X) (hK : va_K (gD G) (gC G) (gT G) s) (hAT : me_AT G el) : me_rule el X v N (me_JW p l e R s m args below meth c Q G nL sz0 sl0 H0 N) 61 := by
  intro pc ls st M q i x d hk hi kk
  refine ⟨kk.1, kk.2.1, fun H locs la a1 a2 a3 a4 a5 a6 a7 => ?_⟩
  obtain ⟨t, h1, h2, h3, h4⟩ := me_arr hK a3 (q := q) (by omega)
  obtain ⟨c0, hc0⟩ := hAT.1
  rw [hk] at h1 h4
  cases h1.symm.trans hc0
  refine W.iast hx hb h4 (h2 _ _) (fun z => by cases z) (by rw [arrV_size]; exact hi) rfl rfl d fun H1 e1 e2 e3 => ?_
  · skip
    refine kk.2.2 H1 _ la a1 a2 (a3.write q (by omega) rfl rfl rfl ?_ ?_ e2 e3 ?_) (fun q' hq' => ?_) ?_ a6 a7
    · intro k' q' i' hne; simp [mSetI, mSetR, mI, hne]
    · intro k' q' i' hne; simp [mSetI, mSetR, mR, hne]
    · refine ⟨fun ci' hk' h2' => ?_, fun hk' => ?_⟩
      · have h0 : mKd M q = ci' + 1 := hk'
        omega
      · have h0 : mKd (mSetI M 100 q i.toNatClampNeg x) q = 100 := hk
        refine ⟨_, (by rw [h0]; exact h1), ?_⟩
        rw [e1, h0, arrV_store]
        congr 2
        funext j
        by_cases hj : j = i.toNatClampNeg
        · subst hj
          simp [updV, me_av, mSetI, mSetR, mI, mR]
        · simp [updV, me_av, mSetI, mSetR, mI, mR, hj]
    · have := a3.2.2.2.1 q (by omega)
      rw [e3 q' (Nat.ne_of_lt (Nat.lt_of_lt_of_le hq' this))]
      exact a4 q' hq'
    · intro q' hq'
      rcases List.mem_append.mp hq' with h | h
      · exact a5 q' h
      · rw [List.mem_singleton.mp h]
        exact a3.2.2.2.1 q (by omega)
theorem so_zast (hx : p.tables.exec = Jvm.exec) (hb : c.code = xC X) (hK : va_K (gD G) (gC G) (gT G) s) (hAT : me_AT G el) : me_rule el X v N (me_JW p l e R s m args below meth c Q G nL sz0 sl0 H0 N) 63 := by
  intro pc ls st M q i x d hk hi hz kk
  refine ⟨kk.1, kk.2.1, fun H locs la a1 a2 a3 a4 a5 a6 a7 => ?_⟩
  obtain ⟨t, h1, h2, h3, h4⟩ := me_arr hK a3 (q := q) (by omega)
  obtain ⟨c0, hc0⟩ := hAT.2.1
  rw [hk] at h1 h4
  cases h1.symm.trans hc0
  have hnz : narrow .boolean (.int x) = .int x := by rcases hz with rfl | rfl <;> rfl
  refine W.zast hx hb h4 (h2 _ _) (fun z => by cases z) (by rw [arrV_size]; exact hi) rfl rfl d fun H1 e1 e2 e3 => ?_
  · rw [hnz] at e1
    refine kk.2.2 H1 _ la a1 a2 (a3.write q (by omega) rfl rfl rfl ?_ ?_ e2 e3 ?_) (fun q' hq' => ?_) ?_ a6 a7
    · intro k' q' i' hne; simp [mSetI, mSetR, mI, hne]
    · intro k' q' i' hne; simp [mSetI, mSetR, mR, hne]
    · refine ⟨fun ci' hk' h2' => ?_, fun hk' => ?_⟩
      · have h0 : mKd M q = ci' + 1 := hk'
        omega
      · have h0 : mKd (mSetI M 101 q i.toNatClampNeg x) q = 101 := hk
        refine ⟨_, (by rw [h0]; exact h1), ?_⟩
        rw [e1, h0, arrV_store]
        congr 2
        funext j
        by_cases hj : j = i.toNatClampNeg
        · subst hj
          simp [updV, me_av, mSetI, mSetR, mI, mR]
        · simp [updV, me_av, mSetI, mSetR, mI, mR, hj]
    · have := a3.2.2.2.1 q (by omega)
      rw [e3 q' (Nat.ne_of_lt (Nat.lt_of_lt_of_le hq' this))]
      exact a4 q' hq'
    · intro q' hq'
      rcases List.mem_append.mp hq' with h | h
      · exact a5 q' h
      · rw [List.mem_singleton.mp h]
        exact a3.2.2.2.1 q (by omega)
theorem so_aald (hx : p.tables.exec = Jvm.exec) (hb : c.code = xC X) (hK : va_K (gD G) (gC G) (gT G) s) (hAT : me_AT G el) : me_rule el X v N (me_JW p l e R s m args below meth c Q G nL sz0 sl0 H0 N) 64 := by
  intro pc ls st M q a i d hk ha hi kk
  refine ⟨kk.1, kk.2.1, fun H locs la a1 a2 a3 a4 a5 a6 a7 => ?_⟩
  obtain ⟨t, h1, h2, h3, h4⟩ := me_arr hK a3 (q := q) (by omega)
  rw [hk] at h1 h4
  obtain ⟨ci, r, g1, g2, g3, g4⟩ := hAT.2.2 _ _ (by omega) h1
  have hlt : i.toNatClampNeg < mLn M q := Nat.not_le.mp fun z => hi (Or.inr z)
  refine W.aald (v := va_rf (mR M a q i.toNatClampNeg)) (ty := t.2) hx hb h4 (h2 _ _) (by rw [g4]; rfl) (fun z => by cases z) (by rw [arrV_size]; exact hi) ?_ rfl rfl d (kk.2.2 H locs la a1 a2 a3 a4 a5 a6 a7)
  rw [arrV_read _ _ hlt]
  unfold me_av
  rw [if_pos ha]
theorem so_aast (hx : p.tables.exec = Jvm.exec) (hb : c.code = xC X) (hK : va_K (gD G) (gC G) (gT G) s) (hAT : me_AT G el) : me_rule el X v N (me_JW p l e R s m args below meth c Q G nL sz0 sl0 H0 N) 65 := by
  intro pc ls st M q a w i d hk ha hi hw kk
  refine ⟨kk.1, kk.2.1, fun H locs la a1 a2 a3 a4 a5 a6 a7 => ?_⟩
  obtain ⟨t, h1, h2, h3, h4⟩ := me_arr hK a3 (q := q) (by omega)
  rw [hk] at h1 h4
  obtain ⟨ci, r, g1, g2, g3, g4⟩ := hAT.2.2 _ _ (by omega) h1
  have hlt : i.toNatClampNeg < mLn M q := Nat.not_le.mp fun z => hi (Or.inr z)
  have hi0 : ¬ i < 0 := fun z => hi (Or.inl z)
  rw [show 100 + (a - 100) = a by omega] at g2
  obtain ⟨r', b1, cell, q1, q2, q3, q4⟩ := (a3.2.1 w).1 ci (by rw [hw, g2]) g1
  have hcls := (hK.1 ci r g3).2
  obtain ⟨tc, tf⟩ := t
  subst g4
  obtain ⟨kA, comp, k1, k2, k3, -⟩ := h3
  have hcomp : comp = (gD G).1 ci := Option.some.inj (k3.symm.trans hcls.1)
  subst hcomp
  obtain ⟨kC, hkC, -⟩ := hcls.2
  refine W.aast hx hb h4 (fun z h => by cases h) (fun h => by cases h) k1 k2 rfl hkC ⟨hi0, by rw [arrV_size]; exact hlt⟩ q1 (fun z h => by rw [q3] at h; cases h) (by rw [q2]; exact hkC) (by rw [q2]; exact va_assign hcls) rfl rfl d fun H1 e1 e2 e3 => ?_
  · refine kk.2.2 H1 _ la a1 a2 (a3.write q (by omega) rfl rfl rfl ?_ ?_ e2 e3 ?_) (fun q' hq' => ?_) ?_ a6 a7
    · intro k' q' i' hne; simp [mSetI, mSetR, mI, hne]
    · intro k' q' i' hne; simp [mSetI, mSetR, mR, hne]
    · refine ⟨fun ci' hk' h2' => ?_, fun hk' => ?_⟩
      · have h0 : mKd M q = ci' + 1 := hk'
        omega
      · have h0 : mKd (mSetR M a q i.toNatClampNeg (some w)) q = a := hk
        refine ⟨_, (by rw [h0]; exact h1), ?_⟩
        rw [e1, h0, arrV_store]
        congr 2
        funext j
        by_cases hj : j = i.toNatClampNeg
        · subst hj
          simp [updV, me_av, mSetI, mSetR, mI, mR, ha, va_rf]
        · simp [updV, me_av, mSetI, mSetR, mI, mR, hj, ha]
    · have := a3.2.2.2.1 q (by omega)
      rw [e3 q' (Nat.ne_of_lt (Nat.lt_of_lt_of_le hq' this))]
      exact a4 q' hq'
    · intro q' hq'
      rcases List.mem_append.mp hq' with h | h
      · exact a5 q' h
      · rw [List.mem_singleton.mp h]
        exact a3.2.2.2.1 q (by omega)
theorem so_aastN (hx : p.tables.exec = Jvm.exec) (hb : c.code = xC X) (hK : va_K (gD G) (gC G) (gT G) s) (hAT : me_AT G el) : me_rule el X v N (me_JW p l e R s m args below meth c Q G nL sz0 sl0 H0 N) 66 := by
  intro pc ls st M q a i d hk ha hi kk
  refine ⟨kk.1, kk.2.1, fun H locs la a1 a2 a3 a4 a5 a6 a7 => ?_⟩
  obtain ⟨t, h1, h2, h3, h4⟩ := me_arr hK a3 (q := q) (by omega)
  rw [hk] at h1 h4
  obtain ⟨ci, r, g1, g2, g3, g4⟩ := hAT.2.2 _ _ (by omega) h1
  refine va_WaastN (C := r.1) hx hb h4 (by rw [← g4]; exact h2 _ _) (fun h => by cases h) (by rw [arrV_size]; exact hi) rfl rfl d fun H1 e1 e2 e3 => ?_
  · refine kk.2.2 H1 _ la a1 a2 (a3.write q (by omega) rfl rfl rfl ?_ ?_ e2 e3 ?_) (fun q' hq' => ?_) ?_ a6 a7
    · intro k' q' i' hne; simp [mSetI, mSetR, mI, hne]
    · intro k' q' i' hne; simp [mSetI, mSetR, mR, hne]
    · refine ⟨fun ci' hk' h2' => ?_, fun hk' => ?_⟩
      · have h0 : mKd M q = ci' + 1 := hk'
        omega
      · have h0 : mKd (mSetR M a q i.toNatClampNeg none) q = a := hk
        refine ⟨_, (by rw [h0]; exact h1), ?_⟩
        rw [e1, h0, arrV_store]
        congr 2
        funext j
        by_cases hj : j = i.toNatClampNeg
        · subst hj
          simp [updV, me_av, mSetI, mSetR, mI, mR, ha, va_rf]
        · simp [updV, me_av, mSetI, mSetR, mI, mR, hj, ha]
    · have := a3.2.2.2.1 q (by omega)
      rw [e3 q' (Nat.ne_of_lt (Nat.lt_of_lt_of_le hq' this))]
      exact a4 q' hq'
    · intro q' hq'
      rcases List.mem_append.mp hq' with h | h
      · exact a5 q' h
      · rw [List.mem_singleton.mp h]
        exact a3.2.2.2.1 q (by omega)
/-- a call, as the caller's walk takes it -/
def me_CR (p : Program) (l : Launch) (e : Env) (R : Room) (s : State) (m : MethodId) (args : Array Value) (below : List Frame) (meth : Method) (c : Code) (Q : State → Prop) (G : me_G) (nL pc : Nat) (as : List me_V) (M : me_M) (r : Option me_V) (M1 : me_M) : Prop :=
  mSz M ≤ mSz M1 ∧ mSl M ≤ mSl M1 ∧ ∀ (H : Heap) (locs : List Loc) (la : Array Slot) (rest : List me_V) (cells slots : Nat), me_H G M H → la.size = nL → rest.length ≤ 8 → cells + (mSz M1 - mSz M) ≤ R.cells → slots + (mSl M1 - mSl M) ≤ R.slots →
    (∀ (H1 : Heap) (L : List Loc), me_H G M1 H1 → (∀ q, q < gB G → H1[q]? = H[q]?) → (∀ q ∈ L, gB G ≤ q.base) → W p l e R s m args below meth c H1 (locs ++ L) (cells + (mSz M1 - mSz M)) (slots + (mSl M1 - mSl M)) Q (F0 m (pc + 3) la ((r.toList ++ rest).map me_v))) →
    W p l e R s m args below meth c H locs cells slots Q (F0 m pc la ((as.reverse ++ rest).map me_v))
theorem so_call (hRc : mSz N - sz0 ≤ R.cells) (hRs : mSl N - sl0 ≤ R.slots) (hC : ∀ pc as M r M1, xCall X pc as M r M1 → me_CR p l e R s m args below meth c Q G nL pc as M r M1) : me_rule el X v N (me_JW p l e R s m args below meth c Q G nL sz0 sl0 H0 N) 67 := by
  intro pc ls st M as r M1 h hl kk
  obtain ⟨c1, c2, c3⟩ := hC _ _ _ _ _ h
  have k1 := kk.1
  have k2 := kk.2.1
  refine ⟨by omega, by omega, fun H locs la a1 a2 a3 a4 a5 a6 a7 => ?_⟩
  refine c3 H locs la st _ _ a3 a6.1 hl (by omega) (by omega) fun H1 L b1 b2 b3 => ?_
  refine W.cs (cells' := mSz M1 - sz0) (slots' := mSl M1 - sl0) (by omega) (by omega) ?_
  refine kk.2.2 H1 _ la (by omega) (by omega) b1 (fun q hq => (b2 q hq).trans (a4 q hq)) ?_ a6 a7
  intro q hq
  rcases List.mem_append.mp hq with h | h
  · exact a5 q h
  · exact b3 q h
theorem me_sum (st : List me_V) : ((st.map me_v).map fun v => v.category).sum = st.length := by
  induction st with
  | nil => rfl
  | cons x t ih =>
    simp only [List.map_cons, List.sum_cons, List.length_cons, me_cat]
    rw [ih]; omega
theorem so_obj (hx : p.tables.exec = Jvm.exec) (hb : c.code = xC X) (hml : c.maxLocals = nL) (hown : s.vm.findClass own = some m.cls) (hO : ¬ xO X = 0 → (Cond.methodLink own (xO X) objectInit).before args s = true ∧ (Cond.instanceMethod objectInit).before args s = true ∧ (Cond.code objectInit ⟨#[0xb1]⟩ 1 none).before args s = true ∧ 1 ≤ R.frames ∧ 20 ≤ R.locals) : me_rule el X v N (me_JW p l e R s m args below meth c Q G nL sz0 sl0 H0 N) 68 := by
  intro pc ls st M q d ho hl kk
  obtain ⟨o1, o2, o3, o4, o5⟩ := hO ho
  refine ⟨kk.1, kk.2.1, fun H locs la a1 a2 a3 a4 a5 a6 a7 => ?_⟩
  refine W.objInit hx hb hown o1 o2 o3 rfl (by rw [hml]; exact a6.1) rfl d o4 ?_ (kk.2.2 H locs la a1 a2 a3 a4 a5 a6 a7)
  show 2 * 0 + ((st.map me_v).map fun v => v.category).sum + 12 ≤ R.locals
  rw [me_sum]; omega
theorem so_sald (hx : p.tables.exec = Jvm.exec) (hb : c.code = xC X) (hS : ∀ b L xs, xS X = some (b, L, xs) → b < gB G ∧ va_X b L xs s H0) : me_rule el X v N (me_JW p l e R s m args below meth c Q G nL sz0 sl0 H0 N) 70 := by
  intro pc ls st M b L xs i d hs hi kk
  refine ⟨kk.1, kk.2.1, fun H locs la a1 a2 a3 a4 a5 a6 a7 => ?_⟩
  obtain ⟨s1, scr, h1, h2, h3, h4, h5⟩ := hS _ _ _ hs
  have hlt : i.toNatClampNeg < L := Nat.not_le.mp fun z => hi (Or.inr z)
  exact W.iald (v := .int (xs i.toNatClampNeg)) hx hb (by rw [a4 b s1]; exact h1) h2 h3 (by rw [h4]; exact hi) (h5 _ hlt) rfl rfl d (kk.2.2 H locs la a1 a2 a3 a4 a5 a6 a7)
theorem so_slen (hx : p.tables.exec = Jvm.exec) (hb : c.code = xC X) (hS : ∀ b L xs, xS X = some (b, L, xs) → b < gB G ∧ va_X b L xs s H0) : me_rule el X v N (me_JW p l e R s m args below meth c Q G nL sz0 sl0 H0 N) 71 := by
  intro pc ls st M b L xs d hs kk
  refine ⟨kk.1, kk.2.1, fun H locs la a1 a2 a3 a4 a5 a6 a7 => ?_⟩
  obtain ⟨s1, scr, h1, h2, h3, h4, h5⟩ := hS _ _ _ hs
  exact W.alen (n := Int32.ofNat L) hx hb (by rw [a4 b s1]; exact h1) h2 (by rw [h4] <;> rfl) rfl rfl d (kk.2.2 H locs la a1 a2 a3 a4 a5 a6 a7)
/-- a method's end -/
def me_Qc (G : me_G) (r : Option me_V) (M1 : me_M) : Array Value → State → Outcome → State → Prop := fun _ st o t => o = .returned (r.map me_v) ∧ me_H G M1 t.heap ∧ ∀ q, q < gB G → t.heap[q]? = st.heap[q]?
def me_Pc (G : me_G) (as : List me_V) (M : me_M) : Array Value → State → Prop := fun a U => a = (as.map me_v).toArray ∧ me_H G M U.heap ∧ va_K (gD G) (gC G) (gT G) U ∧ me_Nw G U
def me_ret (X : me_X) (t : Option FieldType) : Prop := (xR X = 0 ∧ t = none) ∨ (xR X = 1 ∧ t = some .int) ∨ (xR X = 2 ∧ t = some .boolean) ∨ (xR X = 3 ∧ ((∃ a, t = some (.object a)) ∨ ∃ a, t = some (.array a)))
theorem so_ret_i (hx : p.tables.exec = Jvm.exec) (hb : c.code = xC X) (hlocks : meth.locks = false) (hr : me_ret X meth.sig.returnType) : me_rule el X v N (me_JW p l e R s m args below meth c (MQ below (me_Qc G v N) args s (mSz N - sz0) (mSl N - sl0) (fun q => gB G ≤ q)) G nL sz0 sl0 s.heap N) 72 := by
  intro pc ls x d h0 hv
  subst hv
  refine ⟨Nat.le_refl _, Nat.le_refl _, fun H locs la a1 a2 a3 a4 a5 a6 a7 => ?_⟩
  unfold me_ret at hr
  rw [h0] at hr
  simp only [Nat.reduceEqDiff, false_and, true_and, false_or, or_false] at hr
  exact W.iret hx hb hr (fun t ht hW => ⟨rfl, by rw [ht]; exact a3, fun q hq => by rw [ht]; exact a4 q hq⟩) a5 d hlocks
theorem so_ret_z (hx : p.tables.exec = Jvm.exec) (hb : c.code = xC X) (hlocks : meth.locks = false) (hr : me_ret X meth.sig.returnType) : me_rule el X v N (me_JW p l e R s m args below meth c (MQ below (me_Qc G v N) args s (mSz N - sz0) (mSl N - sl0) (fun q => gB G ≤ q)) G nL sz0 sl0 s.heap N) 73 := by
  intro pc ls x d h0 hz hv
  subst hv
  refine ⟨Nat.le_refl _, Nat.le_refl _, fun H locs la a1 a2 a3 a4 a5 a6 a7 => ?_⟩
  unfold me_ret at hr
  rw [h0] at hr
  simp only [Nat.reduceEqDiff, false_and, true_and, false_or, or_false] at hr
  exact W.zret hx hb hr (by rcases hz with rfl | rfl <;> rfl) (fun t ht hW => ⟨rfl, by rw [ht]; exact a3, fun q hq => by rw [ht]; exact a4 q hq⟩) a5 d hlocks
theorem so_ret_a (hx : p.tables.exec = Jvm.exec) (hb : c.code = xC X) (hlocks : meth.locks = false) (hr : me_ret X meth.sig.returnType) : me_rule el X v N (me_JW p l e R s m args below meth c (MQ below (me_Qc G v N) args s (mSz N - sz0) (mSl N - sl0) (fun q => gB G ≤ q)) G nL sz0 sl0 s.heap N) 74 := by
  intro pc ls x d h0 hv
  subst hv
  refine ⟨Nat.le_refl _, Nat.le_refl _, fun H locs la a1 a2 a3 a4 a5 a6 a7 => ?_⟩
  unfold me_ret at hr
  rw [h0] at hr
  simp only [Nat.reduceEqDiff, false_and, true_and, false_or, or_false] at hr
  rcases hr with ⟨a, hr⟩ | ⟨a, hr⟩
  · exact W.aret hx hb hr (Or.inl ⟨a, rfl⟩) (by cases x; exact Or.inl rfl; exact Or.inr ⟨_, rfl⟩) (fun t ht hW => ⟨rfl, by rw [ht]; exact a3, fun q hq => by rw [ht]; exact a4 q hq⟩) a5 d hlocks
  · exact W.aret hx hb hr (Or.inr ⟨a, rfl⟩) (by cases x; exact Or.inl rfl; exact Or.inr ⟨_, rfl⟩) (fun t ht hW => ⟨rfl, by rw [ht]; exact a3, fun q hq => by rw [ht]; exact a4 q hq⟩) a5 d hlocks
theorem so_ret_v (hx : p.tables.exec = Jvm.exec) (hb : c.code = xC X) (hlocks : meth.locks = false) (hr : me_ret X meth.sig.returnType) : me_rule el X v N (me_JW p l e R s m args below meth c (MQ below (me_Qc G v N) args s (mSz N - sz0) (mSl N - sl0) (fun q => gB G ≤ q)) G nL sz0 sl0 s.heap N) 75 := by
  intro pc ls d h0 hv
  subst hv
  refine ⟨Nat.le_refl _, Nat.le_refl _, fun H locs la a1 a2 a3 a4 a5 a6 a7 => ?_⟩
  unfold me_ret at hr
  rw [h0] at hr
  simp only [Nat.reduceEqDiff, false_and, true_and, false_or, or_false] at hr
  exact W.vret hx hb hr (fun t ht hW => ⟨rfl, by rw [ht]; exact a3, fun q hq => by rw [ht]; exact a4 q hq⟩) a5 d hlocks
/-! calls -/
theorem me_blind {as : List me_V} {M : me_M} (hG : me_NW G) : FrameBlind (me_Pc G as M) := fun a U g mk h => ⟨h.1, h.2.1, va_K.moved (u := U) (U := U.calling g mk a) (Vm.Alike.refl U.vm) h.2.2.1, fun w hw => by
    rcases hG w hw with ⟨a1, i1, x1, h1, rfl⟩ | ⟨C, rfl⟩
    · exact va_Nw.same (u := U) (U := U.calling g mk a) rfl rfl (h.2.2.2 _ hw)
    · exact va_AO.moved (u := U) (U := U.calling g mk a) (Vm.Alike.refl U.vm) (h.2.2.2 _ hw)⟩
theorem me_rest {m : MethodId} {pc : Nat} {la : Array Slot} {st : List Value} {rest : List me_V} (h : rest.length ≤ 8) : 2 * (F0 m pc la st).monitorRoom + ((rest.map me_v).map fun v => v.category).sum ≤ 8 := by
  rw [me_sum]
  show 2 * 0 + _ ≤ 8
  omega
section CRS
variable {y : MethodName} {bytes cc : ByteArray} {maxL n index : Nat} {ret : Option FieldType} {ws : List Cond} {rm : Room} {Ts : List Cond} {C : String} {b pc : Nat} {as : List me_V} {M M1 : me_M} {r : Option me_V}
theorem me_goes {as2 : List me_V} {g : JFrame} {H : Heap} {locs : List Loc} {la : Array Slot} {rest : List me_V} {cells slots : Nat} {a : Array Value} (hg : g = F0 m pc la ((as2.reverse ++ rest).map me_v))
    (hr : va_Run p l e R s m args below meth c H locs cells slots (mSz M1 - mSz M) (mSl M1 - mSl M) g (rest.map me_v) (me_Qc G r M1 a) (fun q => gB G ≤ q))
    (kk : ∀ (H1 : Heap) (L : List Loc), me_H G M1 H1 → (∀ q, q < gB G → H1[q]? = H[q]?) → (∀ q ∈ L, gB G ≤ q.base) → W p l e R s m args below meth c H1 (locs ++ L) (cells + (mSz M1 - mSz M)) (slots + (mSl M1 - mSl M)) Q (F0 m (pc + 3) la ((r.toList ++ rest).map me_v))) :
    W p l e R s m args below meth c H locs cells slots Q (F0 m pc la ((as2.reverse ++ rest).map me_v)) := by
  subst hg
  intro T hT X0
  obtain ⟨v0, st₀, t, T', L, h0, X', hL, e1, e2, ⟨q1, q2, q3⟩, st⟩ := hr T hT X0
  have hv : v0 = r.map me_v := by
    injection q1
  subst hv
  obtain ⟨t2, a1, b1⟩ := kk T'.heap L (by rw [e1]; exact q2) (fun q hq => by rw [e1, q3 q hq, h0]) hL T' rfl X'
  refine ⟨t2, st t2 ?_, b1⟩
  have he : (r.map me_v).toList ++ rest.map me_v = (r.toList ++ rest).map me_v := by cases r <;> simp
  rw [he]
  exact a1
theorem me_crV (S : CallFix p m c cc nL s args Ts own) (hK : va_K (gD G) (gC G) (gT G) s) (hG : me_NW G) (hN : me_Nw G s) (hM : Met l y ws rm (me_Pc G (.inr (some b) :: as) M) (me_Qc G r M1) (mSz M1 - mSz M) (mSl M1 - mSl M) (fun q => gB G ≤ q)) (h1 : mSz M ≤ mSz M1) (h2 : mSl M ≤ mSl M1)
    (cw : CallW R s args own C index y bytes maxL ret ws rm (mSz M1 - mSz M) (mSl M1 - mSl M) n) (hn : as.length = n) {ci : Nat} (hk : mKd M b = ci + 1) (hci : ci < 99) {q0 : vw_C} (hc : (gC G)[ci]? = some q0) (hC : q0.1 = C) (hd : decode cc pc = .ok (.invokevirtual index, 3)) : me_CR p l e R s m args below meth c Q G nL pc (.inr (some b) :: as) M r M1 := by
  refine ⟨h1, h2, fun H locs la rest cells slots hH hsz hrl hc1 hc2 kk => ?_⟩
  obtain ⟨r', b1, cell, g1, g2, g3, -⟩ := (hH.2.1 b).1 ci hk hci
  cases hc.symm.trans b1
  refine me_goes rfl (va_runV (As := as.map me_v) (b := b) S hM cw ⟨me_blind hG, ⟨cell, g1, by rw [g3]; rfl, by rw [← hC, g2]; exact (hK.1 ci _ hc).2.1⟩, fun U hU hW => ⟨rfl, by rw [hU]; exact hH, va_K.moved hW.alike hK, hN.warm hG hW⟩⟩ rfl (by rw [List.length_map]; exact hn) hsz ?_ (me_rest hrl) hd ⟨hc1, hc2⟩) kk
  simp [va_rf]
theorem me_crI (S : CallFix p m c cc nL s args Ts own) (hK : va_K (gD G) (gC G) (gT G) s) (hG : me_NW G) (hN : me_Nw G s) (hM : Met l y ws rm (me_Pc G (.inr (some b) :: as) M) (me_Qc G r M1) (mSz M1 - mSz M) (mSl M1 - mSl M) (fun q => gB G ≤ q)) (h1 : mSz M ≤ mSz M1) (h2 : mSl M ≤ mSl M1)
    (cw : CallB R s args own index y bytes maxL none ws rm (mSz M1 - mSz M) (mSl M1 - mSl M) n ∧ y.name = "<init>" ∧ (Cond.instanceMethod y).before args s = true) (hn : as.length = n) (hd : decode cc pc = .ok (.invokespecial index, 3)) : me_CR p l e R s m args below meth c Q G nL pc (.inr (some b) :: as) M r M1 := by
  refine ⟨h1, h2, fun H locs la rest cells slots hH hsz hrl hc1 hc2 kk => ?_⟩
  refine me_goes rfl (va_runI (As := as.map me_v) (b := b) S hM cw ⟨me_blind hG, fun U hU hW => ⟨rfl, by rw [hU]; exact hH, va_K.moved hW.alike hK, hN.warm hG hW⟩⟩ rfl (by rw [List.length_map]; exact hn) hsz ?_ (me_rest hrl) hd ⟨hc1, hc2⟩) kk
  simp [va_rf]
theorem me_crS (S : CallFix p m c cc nL s args Ts own) (hK : va_K (gD G) (gC G) (gT G) s) (hG : me_NW G) (hN : me_Nw G s) (hM : Met l y ws rm (me_Pc G as M) (me_Qc G r M1) (mSz M1 - mSz M) (mSl M1 - mSl M) (fun q => gB G ≤ q)) (h1 : mSz M ≤ mSz M1) (h2 : mSl M ≤ mSl M1)
    (cw : CallB R s args own index y bytes maxL ret ws rm (mSz M1 - mSz M) (mSl M1 - mSl M) n ∧ (Cond.static y).before args s = true) (hn : as.length = n) (hd : decode cc pc = .ok (.invokestatic index, 3)) : me_CR p l e R s m args below meth c Q G nL pc as M r M1 := by
  refine ⟨h1, h2, fun H locs la rest cells slots hH hsz hrl hc1 hc2 kk => ?_⟩
  refine me_goes rfl (va_runS (As := as.map me_v) S hM cw ⟨me_blind hG, fun U hU hW => ⟨rfl, by rw [hU]; exact hH, va_K.moved hW.alike hK, hN.warm hG hW⟩⟩ rfl (by rw [List.length_map]; exact hn) hsz ?_ (me_rest hrl) hd ⟨hc1, hc2⟩) kk
  simp
theorem me_crIN {host : String} (S : CallFix p m c cc nL s args Ts own) (hK : va_K (gD G) (gC G) (gT G) s) (hG : me_NW G) (hN : me_Nw G s) (hM : Met l y ws rm (me_Pc G (.inr (some b) :: as) M) (me_Qc G r M1) (mSz M1 - mSz M) (mSl M1 - mSl M) (fun q => gB G ≤ q)) (h1 : mSz M ≤ mSz M1) (h2 : mSl M ≤ mSl M1)
    (cw : va_CN R s args own index y host bytes maxL none ws rm (mSz M1 - mSz M) (mSl M1 - mSl M) n ∧ y.name = "<init>" ∧ (Cond.instanceMethod y).before args s = true) (hn : as.length = n) (hd : decode cc pc = .ok (.invokespecial index, 3)) : me_CR p l e R s m args below meth c Q G nL pc (.inr (some b) :: as) M r M1 := by
  refine ⟨h1, h2, fun H locs la rest cells slots hH hsz hrl hc1 hc2 kk => ?_⟩
  refine me_goes rfl (va_runIN (As := as.map me_v) (b := b) S hM cw ⟨me_blind hG, fun U hU hW => ⟨rfl, by rw [hU]; exact hH, va_K.moved hW.alike hK, hN.warm hG hW⟩⟩ rfl (by rw [List.length_map]; exact hn) hsz ?_ (me_rest hrl) hd ⟨hc1, hc2⟩) kk
  simp [va_rf]
end CRS
end SND
/-- a run makes cells, it never takes one away -/
theorem RUN.le {el : Nat → Nat} {X : me_X} {pc : Nat} {ls : List (Option me_V)} {st : List me_V} {M : me_M} {v : Option me_V} {N : me_M} (hC : ∀ pc as M r M1, xCall X pc as M r M1 → mSz M ≤ mSz M1 ∧ mSl M ≤ mSl M1) (h : RUN el X pc ls st M v N) : mSz M ≤ mSz N ∧ mSl M ≤ mSl N := by
  refine h (fun _ _ _ M => mSz M ≤ mSz N ∧ mSl M ≤ mSl N) fun i => ?_
  match i with
  | 0 => exact fun _ _ _ _ _ _ _ _ kk => kk
  | 1 => exact fun _ _ _ _ _ _ _ _ kk => kk
  | 2 => exact fun _ _ _ _ _ _ _ _ kk => kk
  | 3 => exact fun _ _ _ _ _ _ _ _ kk => kk
  | 4 => exact fun _ _ _ _ _ kk => kk
  | 5 => exact fun _ _ _ _ _ _ _ _ kk => kk
  | 6 => exact fun _ _ _ _ _ _ _ _ kk => kk
  | 7 => exact fun _ _ _ _ _ _ _ _ kk => kk
  | 8 => exact fun _ _ _ _ _ _ _ _ kk => kk
  | 9 => exact fun _ _ _ _ _ _ _ _ _ _ kk => kk
  | 10 => exact fun _ _ _ _ _ _ _ _ _ _ kk => kk
  | 11 => exact fun _ _ _ _ _ _ _ _ _ _ kk => kk
  | 12 => exact fun _ _ _ _ _ _ _ _ _ _ kk => kk
  | 13 => exact fun _ _ _ _ _ _ _ _ _ _ _ kk => kk
  | 14 => exact fun _ _ _ _ _ _ _ kk => kk
  | 15 => exact fun _ _ _ _ _ _ _ kk => kk
  | 16 => exact fun _ _ _ _ _ _ _ kk => kk
  | 17 => exact fun _ _ _ _ _ _ _ kk => kk
  | 18 => exact fun _ _ _ _ _ _ _ kk => kk
  | 19 => exact fun _ _ _ _ _ _ _ kk => kk
  | 20 => exact fun _ _ _ _ _ _ _ kk => kk
  | 21 => exact fun _ _ _ _ _ _ _ kk => kk
  | 22 => exact fun _ _ _ _ _ _ _ _ kk => kk
  | 23 => exact fun _ _ _ _ _ _ _ _ kk => kk
  | 24 => exact fun _ _ _ _ _ _ kk => kk
  | 25 => exact fun _ _ _ _ _ _ kk => kk
  | 26 => exact fun _ _ _ _ _ _ kk => kk
  | 27 => exact fun _ _ _ _ _ _ _ kk => kk
  | 28 => exact fun _ _ _ _ _ _ _ _ kk => kk
  | 29 => exact fun _ _ _ _ _ _ _ kk => kk
  | 30 =>
    intro pc ls st M x off tgt _ _ kt kf
    by_cases hg : x = 0
    · exact kt hg
    · exact kf hg
  | 31 =>
    intro pc ls st M x off tgt _ _ kt kf
    by_cases hg : x = 0
    · exact kf hg
    · exact kt hg
  | 32 =>
    intro pc ls st M x off tgt _ _ kt kf
    by_cases hg : x < 0
    · exact kt hg
    · exact kf hg
  | 33 =>
    intro pc ls st M x off tgt _ _ kt kf
    by_cases hg : 0 ≤ x
    · exact kt hg
    · exact kf hg
  | 34 =>
    intro pc ls st M x off tgt _ _ kt kf
    by_cases hg : 0 < x
    · exact kt hg
    · exact kf hg
  | 35 =>
    intro pc ls st M x off tgt _ _ kt kf
    by_cases hg : x ≤ 0
    · exact kt hg
    · exact kf hg
  | 36 =>
    intro pc ls st M x y off tgt _ _ kt kf
    by_cases hg : x = y
    · exact kt hg
    · exact kf hg
  | 37 =>
    intro pc ls st M x y off tgt _ _ kt kf
    by_cases hg : x = y
    · exact kf hg
    · exact kt hg
  | 38 =>
    intro pc ls st M x y off tgt _ _ kt kf
    by_cases hg : x < y
    · exact kt hg
    · exact kf hg
  | 39 =>
    intro pc ls st M x y off tgt _ _ kt kf
    by_cases hg : y ≤ x
    · exact kt hg
    · exact kf hg
  | 40 =>
    intro pc ls st M x y off tgt _ _ kt kf
    by_cases hg : y < x
    · exact kt hg
    · exact kf hg
  | 41 =>
    intro pc ls st M x y off tgt _ _ kt kf
    by_cases hg : x ≤ y
    · exact kt hg
    · exact kf hg
  | 42 =>
    intro pc ls st M x y off tgt _ _ kt kf
    by_cases hg : x = y
    · exact kt hg
    · exact kf hg
  | 43 =>
    intro pc ls st M x y off tgt _ _ kt kf
    by_cases hg : x = y
    · exact kf hg
    · exact kt hg
  | 44 =>
    intro pc ls st M x off tgt _ _ kt kf
    by_cases hg : x = none
    · exact kt hg
    · exact kf hg
  | 45 =>
    intro pc ls st M x off tgt _ _ kt kf
    by_cases hg : x = none
    · exact kf hg
    · exact kt hg
  | 46 => exact fun _ _ _ _ _ _ _ _ kk => kk
  | 47 => exact fun _ _ _ _ _ _ _ _ _ _ _ _ _ _ _ _ _ kk => kk
  | 48 => exact fun _ _ _ _ _ _ _ _ _ _ _ _ _ _ kk => kk
  | 49 => exact fun _ _ _ _ _ _ _ _ _ _ _ _ _ _ kk => kk
  | 50 => exact fun _ _ _ _ _ _ _ _ _ _ _ _ _ _ kk => kk
  | 51 => exact fun _ _ _ _ _ _ _ _ _ _ _ _ kk => kk
  | 52 => exact fun _ _ _ _ _ _ _ _ _ _ _ _ _ kk => kk
  | 53 => exact fun _ _ _ _ _ _ _ _ _ _ _ _ _ _ kk => kk
  | 54 => exact fun _ _ _ _ _ _ _ _ _ _ _ _ _ kk => kk
  | 55 => exact fun _ _ _ _ _ _ _ _ _ kk => ⟨Nat.le_of_succ_le kk.1, Nat.le_trans (Nat.le_add_right _ _) kk.2⟩
  | 56 => exact fun _ _ _ _ _ _ _ _ _ kk => ⟨Nat.le_of_succ_le kk.1, Nat.le_trans (Nat.le_add_right _ _) kk.2⟩
  | 57 => exact fun _ _ _ _ _ _ _ _ _ kk => ⟨Nat.le_of_succ_le kk.1, Nat.le_trans (Nat.le_add_right _ _) kk.2⟩
  | 58 => exact fun _ _ _ _ _ _ _ _ _ _ _ _ kk => ⟨Nat.le_of_succ_le kk.1, Nat.le_trans (Nat.le_add_right _ _) kk.2⟩
  | 59 => exact fun _ _ _ _ _ _ _ kk => kk
  | 60 => exact fun _ _ _ _ _ _ _ _ _ kk => kk
  | 61 => exact fun _ _ _ _ _ _ _ _ _ _ kk => kk
  | 62 => exact fun _ _ _ _ _ _ _ _ _ kk => kk
  | 63 => exact fun _ _ _ _ _ _ _ _ _ _ _ kk => kk
  | 64 => exact fun _ _ _ _ _ _ _ _ _ _ _ kk => kk
  | 65 => exact fun _ _ _ _ _ _ _ _ _ _ _ _ _ kk => kk
  | 66 => exact fun _ _ _ _ _ _ _ _ _ _ _ kk => kk
  | 67 => exact fun _ _ _ _ _ _ _ h _ kk => ⟨Nat.le_trans (hC _ _ _ _ _ h).1 kk.1, Nat.le_trans (hC _ _ _ _ _ h).2 kk.2⟩
  | 68 => exact fun _ _ _ _ _ _ _ _ kk => kk
  | 69 => exact fun _ _ _ _ _ _ _ kk => kk
  | 70 => exact fun _ _ _ _ _ _ _ _ _ _ _ kk => kk
  | 71 => exact fun _ _ _ _ _ _ _ _ _ kk => kk
  | 72 => exact fun _ _ _ _ _ _ => ⟨Nat.le_refl _, Nat.le_refl _⟩
  | 73 => exact fun _ _ _ _ _ _ _ => ⟨Nat.le_refl _, Nat.le_refl _⟩
  | 74 => exact fun _ _ _ _ _ _ => ⟨Nat.le_refl _, Nat.le_refl _⟩
  | 75 => exact fun _ _ _ _ _ => ⟨Nat.le_refl _, Nat.le_refl _⟩
  | (k + 76) => exact trivial
/-- what a method's tables must give, at the state of its start -/
def me_tabs (G : me_G) (X : me_X) (own : String) (R : Room) (args : Array Value) (s : State) (nm : String) : Prop :=
  me_TF G own args s False (xF X) ∧ me_TF G own args s True (xG X) ∧ (∀ idx ci k key ty r, xG X idx = some (ci, k, key, ty) → (gC G)[ci]? = some r → (r.2.1 k).2.2.2 = true → nm = "<init>") ∧ me_TN G own args s (xN X) ∧ me_TA G own args s (xA X) ∧
  (xA X 70000 = some 100 → (Cond.arrayClass .int).before args s = true) ∧ (xA X 70001 = some 101 → (Cond.arrayClass .boolean).before args s = true) ∧ (∀ n w, xK X n = some w → (Jvm.Cond.constant own n w).before args s = true) ∧
  (¬ xO X = 0 → (Cond.methodLink own (xO X) objectInit).before args s = true ∧ (Cond.instanceMethod objectInit).before args s = true ∧ (Cond.code objectInit ⟨#[0xb1]⟩ 1 none).before args s = true ∧ 1 ≤ R.frames ∧ 20 ≤ R.locals)
theorem me_args (as : List me_V) (n : Nat) {j : Nat} {x : me_V} (h : as[j]? = some x) : (n + j, me_v x) ∈ lv_args n (as.map me_v) := by
  induction as generalizing n j with
  | nil => cases h
  | cons a t ih =>
    have hc := me_cat a
    simp only [List.map_cons, lv_args, hc]
    cases j with
    | zero =>
      cases h
      simp
    | succ j =>
      rw [List.getElem?_cons_succ] at h
      have := ih (n + 1) h
      simp only [Nat.reduceEqDiff, if_false]
      exact List.mem_cons_of_mem _ (by rw [show n + (j + 1) = n + 1 + j by omega]; exact this)
theorem me_sl (as : List me_V) : (lg_sl (as.map me_v)).length = as.length := by
  induction as with
  | nil => rfl
  | cons a t ih =>
    have hc := me_cat a
    simp [lg_sl, hc] at ih ⊢
    exact ih
set_option maxHeartbeats 4000000 in
set_option maxRecDepth 100000 in
/-- a run of the rules is a contract of the machine -/
theorem me_met {l : Launch} {y : MethodName} {ws ws' : List Cond} {cc : ByteArray} {maxL fr lo : Nat} {ret : Option FieldType} {G : me_G} {X : me_X} {el : Nat → Nat} {as : List me_V} {M N : me_M} {v : Option me_V} (hy : plainName y.cls = true) (hw : ws = Cond.code y cc maxL ret :: ws') (hcc : xC X = cc) (hret : me_ret X ret) (hlen : as.length ≤ maxL) (hS : xS X = none) (hCL : me_CL G) (hAT : me_AT G el)
    (hle : mSz M ≤ mSz N ∧ mSl M ≤ mSl N)
    (hT : ∀ (args : Array Value) (s : State), (∀ w ∈ ws, w.before args s = true) → me_Nw G s → me_tabs G X y.cls { frames := fr, cells := mSz N - mSz M, slots := mSl N - mSl M, locals := lo } args s y.name)
    (hC : ∀ (p : Program) (e : Env) (s : State) (m : MethodId) (args : Array Value) (below : List Frame) (meth : Method) (c : Code) (Q : State → Prop), CallFix p m c cc maxL s args ws y.cls → va_K (gD G) (gC G) (gT G) s → me_Nw G s → ∀ pc as2 M2 r M1, xCall X pc as2 M2 r M1 → me_CR p l e { frames := fr, cells := mSz N - mSz M, slots := mSl N - mSl M, locals := lo } s m args below meth c Q G maxL pc as2 M2 r M1)
    (hrun : RUN el X 0 (as.map some ++ List.replicate (maxL - as.length) none) [] M v N) : Met l y ws { frames := fr, cells := mSz N - mSz M, slots := mSl N - mSl M, locals := lo } (me_Pc G as M) (me_Qc G v N) (mSz N - mSz M) (mSl N - mSl M) (fun q => gB G ≤ q) := by
  refine Met.ofW (cc := cc) (maxL := maxL) (ret := ret) hy hw ?_
  intro p e s m args below meth c s₁ B hml hv
  obtain ⟨rfl, hH, hK, hNw⟩ := hv
  have hx := B.exec
  have hb : c.code = xC X := by rw [hcc]; exact B.bytes
  have hr : me_ret X meth.sig.returnType := by rw [B.returns]; exact hret
  have hts := atoms_spec (ws := ws) B.pre
  have hown : s.vm.findClass y.cls = some m.cls := findClass_of_methodNamed B.named
  have hlocks := B.notSynchronized
  have hnm : meth.name = y.name := (name_of_methodNamed B.named B.method).1
  obtain ⟨T1, T2, T3, T4, T5, T6, T7, T8, T9⟩ := hT _ _ hts hNw
  rw [← hnm] at T3
  have hC2 := fun Q => hC p e s m _ below meth c Q ⟨hx, B.bytes, hml, hown, hts⟩ hK hNw
  have hS2 : ∀ b L xs, xS X = some (b, L, xs) → b < gB G ∧ va_X b L xs s s.heap := fun b L xs h => by rw [hS] at h; cases h
  have hl := lv_entry (as.map me_v) (n := maxL) (by rw [me_sl]; exact hlen)
  rw [lg_entry_eq]
  generalize (lg_sl (as.map me_v) ++ List.replicate (maxL - (lg_sl (as.map me_v)).length) Slot.unset).toArray = la at hl ⊢
  have hl2 : lv_has la maxL (me_lv (as.map some ++ List.replicate (maxL - as.length) none)) := by
    refine ⟨hl.1, hl.2.1, fun q hq => ?_⟩
    obtain ⟨j, w⟩ := q
    obtain ⟨x, hx1, rfl⟩ := me_lv_mem.mp hq
    refine hl.2.2 _ ?_
    by_cases hj : j < as.length
    · rw [List.getElem?_append_left (by rw [List.length_map]; exact hj), List.getElem?_map] at hx1
      cases hz : as[j]? with
      | none => rw [hz] at hx1; cases hx1
      | some z =>
        rw [hz] at hx1
        cases hx1
        have := me_args as 0 hz
        rwa [Nat.zero_add] at this
    · rw [List.getElem?_append_right (by rw [List.length_map]; omega), List.getElem?_replicate] at hx1
      split at hx1 <;> cases hx1
  have key := hrun (me_JW p l e { frames := fr, cells := mSz N - mSz M, slots := mSl N - mSl M, locals := lo } s m (as.map me_v).toArray below meth c (MQ below (me_Qc G v N) (as.map me_v).toArray s (mSz N - mSz M) (mSl N - mSl M) (fun q => gB G ≤ q)) G maxL (mSz M) (mSl M) s.heap N) (fun i => ?_)
  · have h := key.2.2 s.heap [] la (Nat.le_refl _) (Nat.le_refl _) hH (fun _ _ => rfl) (fun _ h => by cases h) hl2 (by simp; omega)
    rw [Nat.sub_self, Nat.sub_self] at h
    exact h
  · have hRc : mSz N - mSz M ≤ ({ frames := fr, cells := mSz N - mSz M, slots := mSl N - mSl M, locals := lo } : Room).cells := Nat.le_refl _
    have hRs : mSl N - mSl M ≤ ({ frames := fr, cells := mSz N - mSz M, slots := mSl N - mSl M, locals := lo } : Room).slots := Nat.le_refl _
    match i with
    | 0 => exact so_iconst hx hb 
    | 1 => exact so_bipush hx hb 
    | 2 => exact so_sipush hx hb 
    | 3 => exact so_ldc hx hb hown T8
    | 4 => exact so_null hx hb 
    | 5 => exact so_iload_n hx hb 
    | 6 => exact so_iload hx hb 
    | 7 => exact so_aload_n hx hb 
    | 8 => exact so_aload hx hb 
    | 9 => exact so_istore_n hx hb 
    | 10 => exact so_istore hx hb 
    | 11 => exact so_astore_n hx hb 
    | 12 => exact so_astore hx hb 
    | 13 => exact so_iinc hx hb 
    | 14 => exact so_iadd hx hb 
    | 15 => exact so_isub hx hb 
    | 16 => exact so_imul hx hb 
    | 17 => exact so_iand hx hb 
    | 18 => exact so_ior hx hb 
    | 19 => exact so_ixor hx hb 
    | 20 => exact so_ishl hx hb 
    | 21 => exact so_ishr hx hb 
    | 22 => exact so_idiv hx hb 
    | 23 => exact so_irem hx hb 
    | 24 => exact so_ineg hx hb 
    | 25 => exact so_dup hx hb 
    | 26 => exact so_pop hx hb 
    | 27 => exact so_dup_x1 hx hb 
    | 28 => exact so_dup_x2 hx hb 
    | 29 => exact so_dup2 hx hb 
    | 30 => exact so_if_eq hx hb 
    | 31 => exact so_if_ne hx hb 
    | 32 => exact so_if_lt hx hb 
    | 33 => exact so_if_ge hx hb 
    | 34 => exact so_if_gt hx hb 
    | 35 => exact so_if_le hx hb 
    | 36 => exact so_icmp_eq hx hb 
    | 37 => exact so_icmp_ne hx hb 
    | 38 => exact so_icmp_lt hx hb 
    | 39 => exact so_icmp_ge hx hb 
    | 40 => exact so_icmp_gt hx hb 
    | 41 => exact so_icmp_le hx hb 
    | 42 => exact so_acmp_eq hx hb 
    | 43 => exact so_acmp_ne hx hb 
    | 44 => exact so_ifnull hx hb 
    | 45 => exact so_ifnonnull hx hb 
    | 46 => exact so_goto hx hb 
    | 47 => exact so_tabIn hx hb 
    | 48 => exact so_tabOut hx hb 
    | 49 => exact so_lookup hx hb 
    | 50 => exact so_getI hx hb hown hK T1
    | 51 => exact so_getR hx hb hown hK T1
    | 52 => exact so_putI hx hb hown hK hCL T2 T3
    | 53 => exact so_putZ hx hb hown hK hCL T2 T3
    | 54 => exact so_putR hx hb hown hK hCL T2 T3
    | 55 => exact so_new hx hb hown hK hCL hRc hRs T4
    | 56 => exact so_newI hx hb hK hAT hRc hRs T6
    | 57 => exact so_newZ hx hb hK hAT hRc hRs T7
    | 58 => exact so_newR hx hb hown hK hRc hRs T5
    | 59 => exact so_alen hx hb hK
    | 60 => exact so_iald hx hb hK hAT
    | 61 => exact so_iast hx hb hK hAT
    | 62 => exact so_zald hx hb hK hAT
    | 63 => exact so_zast hx hb hK hAT
    | 64 => exact so_aald hx hb hK hAT
    | 65 => exact so_aast hx hb hK hAT
    | 66 => exact so_aastN hx hb hK hAT
    | 67 => exact so_call hRc hRs (hC2 _)
    | 68 => exact so_obj hx hb hml hown T9
    | 69 => exact so_drop hx hb 
    | 70 => exact so_sald hx hb hS2
    | 71 => exact so_slen hx hb hS2
    | 72 => exact so_ret_i hx hb hlocks hr
    | 73 => exact so_ret_z hx hb hlocks hr
    | 74 => exact so_ret_a hx hb hlocks hr
    | 75 => exact so_ret_v hx hb hlocks hr
    | (k + 76) => exact trivial
end
section
theorem d_Net_init_0 : decode b_Net_init 0 = .ok (.aload_n 0, 1) := by decide +kernel
theorem d_Net_init_1 : decode b_Net_init 1 = .ok (.invokespecial 3, 3) := by decide +kernel
theorem d_Net_init_4 : decode b_Net_init 4 = .ok (.aload_n 0, 1) := by decide +kernel
theorem d_Net_init_5 : decode b_Net_init 5 = .ok (.bipush 40, 2) := by decide +kernel
theorem d_Net_init_7 : decode b_Net_init 7 = .ok (.anewarray 9, 3) := by decide +kernel
theorem d_Net_init_10 : decode b_Net_init 10 = .ok (.putfield 11, 3) := by decide +kernel
theorem d_Net_init_13 : decode b_Net_init 13 = .ok (.return_, 1) := by decide +kernel
theorem d_En_init_0 : decode b_En_init 0 = .ok (.aload_n 0, 1) := by decide +kernel
theorem d_En_init_1 : decode b_En_init 1 = .ok (.invokespecial 3, 3) := by decide +kernel
theorem d_En_init_4 : decode b_En_init 4 = .ok (.return_, 1) := by decide +kernel
theorem d_Sto_init_0 : decode b_Sto_init 0 = .ok (.aload_n 0, 1) := by decide +kernel
theorem d_Sto_init_1 : decode b_Sto_init 1 = .ok (.invokespecial 3, 3) := by decide +kernel
theorem d_Sto_init_4 : decode b_Sto_init 4 = .ok (.aload_n 0, 1) := by decide +kernel
theorem d_Sto_init_5 : decode b_Sto_init 5 = .ok (.iconst 4, 1) := by decide +kernel
theorem d_Sto_init_6 : decode b_Sto_init 6 = .ok (.newarray .int, 2) := by decide +kernel
theorem d_Sto_init_8 : decode b_Sto_init 8 = .ok (.putfield 9, 3) := by decide +kernel
theorem d_Sto_init_11 : decode b_Sto_init 11 = .ok (.aload_n 0, 1) := by decide +kernel
theorem d_Sto_init_12 : decode b_Sto_init 12 = .ok (.iload_n 1, 1) := by decide +kernel
theorem d_Sto_init_13 : decode b_Sto_init 13 = .ok (.newarray .int, 2) := by decide +kernel
theorem d_Sto_init_15 : decode b_Sto_init 15 = .ok (.putfield 15, 3) := by decide +kernel
theorem d_Sto_init_18 : decode b_Sto_init 18 = .ok (.return_, 1) := by decide +kernel
theorem d_Rp_init_0 : decode b_Rp_init 0 = .ok (.aload_n 0, 1) := by decide +kernel
theorem d_Rp_init_1 : decode b_Rp_init 1 = .ok (.invokespecial 3, 3) := by decide +kernel
theorem d_Rp_init_4 : decode b_Rp_init 4 = .ok (.aload_n 0, 1) := by decide +kernel
theorem d_Rp_init_5 : decode b_Rp_init 5 = .ok (.iload_n 1, 1) := by decide +kernel
theorem d_Rp_init_6 : decode b_Rp_init 6 = .ok (.putfield 9, 3) := by decide +kernel
theorem d_Rp_init_9 : decode b_Rp_init 9 = .ok (.aload_n 0, 1) := by decide +kernel
theorem d_Rp_init_10 : decode b_Rp_init 10 = .ok (.iload_n 2, 1) := by decide +kernel
theorem d_Rp_init_11 : decode b_Rp_init 11 = .ok (.putfield 15, 3) := by decide +kernel
theorem d_Rp_init_14 : decode b_Rp_init 14 = .ok (.aload_n 0, 1) := by decide +kernel
theorem d_Rp_init_15 : decode b_Rp_init 15 = .ok (.iload_n 2, 1) := by decide +kernel
theorem d_Rp_init_16 : decode b_Rp_init 16 = .ok (.iconst 2, 1) := by decide +kernel
theorem d_Rp_init_17 : decode b_Rp_init 17 = .ok (.idiv, 1) := by decide +kernel
theorem d_Rp_init_18 : decode b_Rp_init 18 = .ok (.putfield 18, 3) := by decide +kernel
theorem d_Rp_init_21 : decode b_Rp_init 21 = .ok (.aload_n 0, 1) := by decide +kernel
theorem d_Rp_init_22 : decode b_Rp_init 22 = .ok (.aload_n 3, 1) := by decide +kernel
theorem d_Rp_init_23 : decode b_Rp_init 23 = .ok (.putfield 21, 3) := by decide +kernel
theorem d_Rp_init_26 : decode b_Rp_init 26 = .ok (.aload_n 0, 1) := by decide +kernel
theorem d_Rp_init_27 : decode b_Rp_init 27 = .ok (.bipush 6, 2) := by decide +kernel
theorem d_Rp_init_29 : decode b_Rp_init 29 = .ok (.iload_n 2, 1) := by decide +kernel
theorem d_Rp_init_30 : decode b_Rp_init 30 = .ok (.imul, 1) := by decide +kernel
theorem d_Rp_init_31 : decode b_Rp_init 31 = .ok (.anewarray 25, 3) := by decide +kernel
theorem d_Rp_init_34 : decode b_Rp_init 34 = .ok (.putfield 27, 3) := by decide +kernel
theorem d_Rp_init_37 : decode b_Rp_init 37 = .ok (.iconst 0, 1) := by decide +kernel
theorem d_Rp_init_38 : decode b_Rp_init 38 = .ok (.istore 4, 2) := by decide +kernel
theorem d_Rp_init_40 : decode b_Rp_init 40 = .ok (.iload 4, 2) := by decide +kernel
theorem d_Rp_init_42 : decode b_Rp_init 42 = .ok (.aload_n 0, 1) := by decide +kernel
theorem d_Rp_init_43 : decode b_Rp_init 43 = .ok (.getfield 27, 3) := by decide +kernel
theorem d_Rp_init_46 : decode b_Rp_init 46 = .ok (.arraylength, 1) := by decide +kernel
theorem d_Rp_init_47 : decode b_Rp_init 47 = .ok (.if_icmp .ge 23, 3) := by decide +kernel
theorem d_Rp_init_50 : decode b_Rp_init 50 = .ok (.aload_n 0, 1) := by decide +kernel
theorem d_Rp_init_51 : decode b_Rp_init 51 = .ok (.getfield 27, 3) := by decide +kernel
theorem d_Rp_init_54 : decode b_Rp_init 54 = .ok (.iload 4, 2) := by decide +kernel
theorem d_Rp_init_56 : decode b_Rp_init 56 = .ok (.new 25, 3) := by decide +kernel
theorem d_Rp_init_59 : decode b_Rp_init 59 = .ok (.dup, 1) := by decide +kernel
theorem d_Rp_init_60 : decode b_Rp_init 60 = .ok (.invokespecial 31, 3) := by decide +kernel
theorem d_Rp_init_63 : decode b_Rp_init 63 = .ok (.aastore, 1) := by decide +kernel
theorem d_Rp_init_64 : decode b_Rp_init 64 = .ok (.iinc 4 1, 3) := by decide +kernel
theorem d_Rp_init_67 : decode b_Rp_init 67 = .ok (.goto (-27), 3) := by decide +kernel
theorem d_Rp_init_70 : decode b_Rp_init 70 = .ok (.aload_n 0, 1) := by decide +kernel
theorem d_Rp_init_71 : decode b_Rp_init 71 = .ok (.aload_n 0, 1) := by decide +kernel
theorem d_Rp_init_72 : decode b_Rp_init 72 = .ok (.getfield 27, 3) := by decide +kernel
theorem d_Rp_init_75 : decode b_Rp_init 75 = .ok (.arraylength, 1) := by decide +kernel
theorem d_Rp_init_76 : decode b_Rp_init 76 = .ok (.anewarray 32, 3) := by decide +kernel
theorem d_Rp_init_79 : decode b_Rp_init 79 = .ok (.putfield 34, 3) := by decide +kernel
theorem d_Rp_init_82 : decode b_Rp_init 82 = .ok (.aload_n 0, 1) := by decide +kernel
theorem d_Rp_init_83 : decode b_Rp_init 83 = .ok (.new 38, 3) := by decide +kernel
theorem d_Rp_init_86 : decode b_Rp_init 86 = .ok (.dup, 1) := by decide +kernel
theorem d_Rp_init_87 : decode b_Rp_init 87 = .ok (.aload_n 0, 1) := by decide +kernel
theorem d_Rp_init_88 : decode b_Rp_init 88 = .ok (.getfield 27, 3) := by decide +kernel
theorem d_Rp_init_91 : decode b_Rp_init 91 = .ok (.arraylength, 1) := by decide +kernel
theorem d_Rp_init_92 : decode b_Rp_init 92 = .ok (.invokespecial 40, 3) := by decide +kernel
theorem d_Rp_init_95 : decode b_Rp_init 95 = .ok (.putfield 43, 3) := by decide +kernel
theorem d_Rp_init_98 : decode b_Rp_init 98 = .ok (.return_, 1) := by decide +kernel
theorem d_LM_init_0 : decode b_LM_init 0 = .ok (.aload_n 0, 1) := by decide +kernel
theorem d_LM_init_1 : decode b_LM_init 1 = .ok (.invokespecial 1, 3) := by decide +kernel
theorem d_LM_init_4 : decode b_LM_init 4 = .ok (.aload_n 0, 1) := by decide +kernel
theorem d_LM_init_5 : decode b_LM_init 5 = .ok (.iload_n 1, 1) := by decide +kernel
theorem d_LM_init_6 : decode b_LM_init 6 = .ok (.iconst 4, 1) := by decide +kernel
theorem d_LM_init_7 : decode b_LM_init 7 = .ok (.if_icmp .ge 7, 3) := by decide +kernel
theorem d_LM_init_10 : decode b_LM_init 10 = .ok (.iconst 3, 1) := by decide +kernel
theorem d_LM_init_11 : decode b_LM_init 11 = .ok (.goto 4, 3) := by decide +kernel
theorem d_LM_init_14 : decode b_LM_init 14 = .ok (.iconst 5, 1) := by decide +kernel
theorem d_LM_init_15 : decode b_LM_init 15 = .ok (.putfield 7, 3) := by decide +kernel
theorem d_LM_init_18 : decode b_LM_init 18 = .ok (.aload_n 0, 1) := by decide +kernel
theorem d_LM_init_19 : decode b_LM_init 19 = .ok (.aload_n 0, 1) := by decide +kernel
theorem d_LM_init_20 : decode b_LM_init 20 = .ok (.getfield 7, 3) := by decide +kernel
theorem d_LM_init_23 : decode b_LM_init 23 = .ok (.iconst 2, 1) := by decide +kernel
theorem d_LM_init_24 : decode b_LM_init 24 = .ok (.idiv, 1) := by decide +kernel
theorem d_LM_init_25 : decode b_LM_init 25 = .ok (.putfield 13, 3) := by decide +kernel
theorem d_LM_init_28 : decode b_LM_init 28 = .ok (.aload_n 0, 1) := by decide +kernel
theorem d_LM_init_29 : decode b_LM_init 29 = .ok (.new 16, 3) := by decide +kernel
theorem d_LM_init_32 : decode b_LM_init 32 = .ok (.dup, 1) := by decide +kernel
theorem d_LM_init_33 : decode b_LM_init 33 = .ok (.invokespecial 18, 3) := by decide +kernel
theorem d_LM_init_36 : decode b_LM_init 36 = .ok (.putfield 19, 3) := by decide +kernel
theorem d_LM_init_39 : decode b_LM_init 39 = .ok (.aload_n 0, 1) := by decide +kernel
theorem d_LM_init_40 : decode b_LM_init 40 = .ok (.aload_n 0, 1) := by decide +kernel
theorem d_LM_init_41 : decode b_LM_init 41 = .ok (.getfield 7, 3) := by decide +kernel
theorem d_LM_init_44 : decode b_LM_init 44 = .ok (.anewarray 23, 3) := by decide +kernel
theorem d_LM_init_47 : decode b_LM_init 47 = .ok (.putfield 25, 3) := by decide +kernel
theorem d_LM_init_50 : decode b_LM_init 50 = .ok (.iconst 0, 1) := by decide +kernel
theorem d_LM_init_51 : decode b_LM_init 51 = .ok (.istore_n 2, 1) := by decide +kernel
theorem d_LM_init_52 : decode b_LM_init 52 = .ok (.iload_n 2, 1) := by decide +kernel
theorem d_LM_init_53 : decode b_LM_init 53 = .ok (.aload_n 0, 1) := by decide +kernel
theorem d_LM_init_54 : decode b_LM_init 54 = .ok (.getfield 7, 3) := by decide +kernel
theorem d_LM_init_57 : decode b_LM_init 57 = .ok (.if_icmp .ge 31, 3) := by decide +kernel
theorem d_LM_init_60 : decode b_LM_init 60 = .ok (.aload_n 0, 1) := by decide +kernel
theorem d_LM_init_61 : decode b_LM_init 61 = .ok (.getfield 25, 3) := by decide +kernel
theorem d_LM_init_64 : decode b_LM_init 64 = .ok (.iload_n 2, 1) := by decide +kernel
theorem d_LM_init_65 : decode b_LM_init 65 = .ok (.new 23, 3) := by decide +kernel
theorem d_LM_init_68 : decode b_LM_init 68 = .ok (.dup, 1) := by decide +kernel
theorem d_LM_init_69 : decode b_LM_init 69 = .ok (.iload_n 2, 1) := by decide +kernel
theorem d_LM_init_70 : decode b_LM_init 70 = .ok (.aload_n 0, 1) := by decide +kernel
theorem d_LM_init_71 : decode b_LM_init 71 = .ok (.getfield 7, 3) := by decide +kernel
theorem d_LM_init_74 : decode b_LM_init 74 = .ok (.aload_n 0, 1) := by decide +kernel
theorem d_LM_init_75 : decode b_LM_init 75 = .ok (.getfield 19, 3) := by decide +kernel
theorem d_LM_init_78 : decode b_LM_init 78 = .ok (.invokespecial 29, 3) := by decide +kernel
theorem d_LM_init_81 : decode b_LM_init 81 = .ok (.aastore, 1) := by decide +kernel
theorem d_LM_init_82 : decode b_LM_init 82 = .ok (.iinc 2 1, 3) := by decide +kernel
theorem d_LM_init_85 : decode b_LM_init 85 = .ok (.goto (-33), 3) := by decide +kernel
theorem d_LM_init_88 : decode b_LM_init 88 = .ok (.return_, 1) := by decide +kernel
theorem d_LM_isReplica_0 : decode b_LM_isReplica 0 = .ok (.iload_n 1, 1) := by decide +kernel
theorem d_LM_isReplica_1 : decode b_LM_isReplica 1 = .ok (.ifCond .lt 15, 3) := by decide +kernel
theorem d_LM_isReplica_4 : decode b_LM_isReplica 4 = .ok (.iload_n 1, 1) := by decide +kernel
theorem d_LM_isReplica_5 : decode b_LM_isReplica 5 = .ok (.aload_n 0, 1) := by decide +kernel
theorem d_LM_isReplica_6 : decode b_LM_isReplica 6 = .ok (.getfield 7, 3) := by decide +kernel
theorem d_LM_isReplica_9 : decode b_LM_isReplica 9 = .ok (.if_icmp .ge 7, 3) := by decide +kernel
theorem d_LM_isReplica_12 : decode b_LM_isReplica 12 = .ok (.iconst 1, 1) := by decide +kernel
theorem d_LM_isReplica_13 : decode b_LM_isReplica 13 = .ok (.goto 4, 3) := by decide +kernel
theorem d_LM_isReplica_16 : decode b_LM_isReplica 16 = .ok (.iconst 0, 1) := by decide +kernel
theorem d_LM_isReplica_17 : decode b_LM_isReplica 17 = .ok (.ireturn, 1) := by decide +kernel
theorem d_LM_workingReplica_0 : decode b_LM_workingReplica 0 = .ok (.aload_n 0, 1) := by decide +kernel
theorem d_LM_workingReplica_1 : decode b_LM_workingReplica 1 = .ok (.iload_n 1, 1) := by decide +kernel
theorem d_LM_workingReplica_2 : decode b_LM_workingReplica 2 = .ok (.invokevirtual 150, 3) := by decide +kernel
theorem d_LM_workingReplica_5 : decode b_LM_workingReplica 5 = .ok (.ifCond .eq 24, 3) := by decide +kernel
theorem d_LM_workingReplica_8 : decode b_LM_workingReplica 8 = .ok (.aload_n 0, 1) := by decide +kernel
theorem d_LM_workingReplica_9 : decode b_LM_workingReplica 9 = .ok (.getfield 25, 3) := by decide +kernel
theorem d_LM_workingReplica_12 : decode b_LM_workingReplica 12 = .ok (.iload_n 1, 1) := by decide +kernel
theorem d_LM_workingReplica_13 : decode b_LM_workingReplica 13 = .ok (.aaload, 1) := by decide +kernel
theorem d_LM_workingReplica_14 : decode b_LM_workingReplica 14 = .ok (.getfield 86, 3) := by decide +kernel
theorem d_LM_workingReplica_17 : decode b_LM_workingReplica 17 = .ok (.ifCond .ne 12, 3) := by decide +kernel
theorem d_LM_workingReplica_20 : decode b_LM_workingReplica 20 = .ok (.aload_n 0, 1) := by decide +kernel
theorem d_LM_workingReplica_21 : decode b_LM_workingReplica 21 = .ok (.getfield 25, 3) := by decide +kernel
theorem d_LM_workingReplica_24 : decode b_LM_workingReplica 24 = .ok (.iload_n 1, 1) := by decide +kernel
theorem d_LM_workingReplica_25 : decode b_LM_workingReplica 25 = .ok (.aaload, 1) := by decide +kernel
theorem d_LM_workingReplica_26 : decode b_LM_workingReplica 26 = .ok (.goto 4, 3) := by decide +kernel
theorem d_LM_workingReplica_29 : decode b_LM_workingReplica 29 = .ok (.aconst_null, 1) := by decide +kernel
theorem d_LM_workingReplica_30 : decode b_LM_workingReplica 30 = .ok (.areturn, 1) := by decide +kernel
theorem d_LM_isKey_0 : decode b_LM_isKey 0 = .ok (.iload_n 1, 1) := by decide +kernel
theorem d_LM_isKey_1 : decode b_LM_isKey 1 = .ok (.ifCond .lt 12, 3) := by decide +kernel
theorem d_LM_isKey_4 : decode b_LM_isKey 4 = .ok (.iload_n 1, 1) := by decide +kernel
theorem d_LM_isKey_5 : decode b_LM_isKey 5 = .ok (.iconst 4, 1) := by decide +kernel
theorem d_LM_isKey_6 : decode b_LM_isKey 6 = .ok (.if_icmp .ge 7, 3) := by decide +kernel
theorem d_LM_isKey_9 : decode b_LM_isKey 9 = .ok (.iconst 1, 1) := by decide +kernel
theorem d_LM_isKey_10 : decode b_LM_isKey 10 = .ok (.goto 4, 3) := by decide +kernel
theorem d_LM_isKey_13 : decode b_LM_isKey 13 = .ok (.iconst 0, 1) := by decide +kernel
theorem d_LM_isKey_14 : decode b_LM_isKey 14 = .ok (.ireturn, 1) := by decide +kernel
theorem d_Rp_freeInstance_0 : decode b_Rp_freeInstance 0 = .ok (.bipush 6, 2) := by decide +kernel
theorem d_Rp_freeInstance_2 : decode b_Rp_freeInstance 2 = .ok (.aload_n 0, 1) := by decide +kernel
theorem d_Rp_freeInstance_3 : decode b_Rp_freeInstance 3 = .ok (.getfield 9, 3) := by decide +kernel
theorem d_Rp_freeInstance_6 : decode b_Rp_freeInstance 6 = .ok (.imul, 1) := by decide +kernel
theorem d_Rp_freeInstance_7 : decode b_Rp_freeInstance 7 = .ok (.istore_n 1, 1) := by decide +kernel
theorem d_Rp_freeInstance_8 : decode b_Rp_freeInstance 8 = .ok (.iload_n 1, 1) := by decide +kernel
theorem d_Rp_freeInstance_9 : decode b_Rp_freeInstance 9 = .ok (.istore_n 2, 1) := by decide +kernel
theorem d_Rp_freeInstance_10 : decode b_Rp_freeInstance 10 = .ok (.iload_n 2, 1) := by decide +kernel
theorem d_Rp_freeInstance_11 : decode b_Rp_freeInstance 11 = .ok (.iload_n 1, 1) := by decide +kernel
theorem d_Rp_freeInstance_12 : decode b_Rp_freeInstance 12 = .ok (.bipush 6, 2) := by decide +kernel
theorem d_Rp_freeInstance_14 : decode b_Rp_freeInstance 14 = .ok (.iadd, 1) := by decide +kernel
theorem d_Rp_freeInstance_15 : decode b_Rp_freeInstance 15 = .ok (.if_icmp .ge 35, 3) := by decide +kernel
theorem d_Rp_freeInstance_18 : decode b_Rp_freeInstance 18 = .ok (.aload_n 0, 1) := by decide +kernel
theorem d_Rp_freeInstance_19 : decode b_Rp_freeInstance 19 = .ok (.getfield 27, 3) := by decide +kernel
theorem d_Rp_freeInstance_22 : decode b_Rp_freeInstance 22 = .ok (.iload_n 2, 1) := by decide +kernel
theorem d_Rp_freeInstance_23 : decode b_Rp_freeInstance 23 = .ok (.aaload, 1) := by decide +kernel
theorem d_Rp_freeInstance_24 : decode b_Rp_freeInstance 24 = .ok (.getfield 47, 3) := by decide +kernel
theorem d_Rp_freeInstance_27 : decode b_Rp_freeInstance 27 = .ok (.ifCond .ne 17, 3) := by decide +kernel
theorem d_Rp_freeInstance_30 : decode b_Rp_freeInstance 30 = .ok (.aload_n 0, 1) := by decide +kernel
theorem d_Rp_freeInstance_31 : decode b_Rp_freeInstance 31 = .ok (.getfield 27, 3) := by decide +kernel
theorem d_Rp_freeInstance_34 : decode b_Rp_freeInstance 34 = .ok (.iload_n 2, 1) := by decide +kernel
theorem d_Rp_freeInstance_35 : decode b_Rp_freeInstance 35 = .ok (.aaload, 1) := by decide +kernel
theorem d_Rp_freeInstance_36 : decode b_Rp_freeInstance 36 = .ok (.getfield 50, 3) := by decide +kernel
theorem d_Rp_freeInstance_39 : decode b_Rp_freeInstance 39 = .ok (.ifCond .ne 5, 3) := by decide +kernel
theorem d_Rp_freeInstance_42 : decode b_Rp_freeInstance 42 = .ok (.iload_n 2, 1) := by decide +kernel
theorem d_Rp_freeInstance_43 : decode b_Rp_freeInstance 43 = .ok (.ireturn, 1) := by decide +kernel
theorem d_Rp_freeInstance_44 : decode b_Rp_freeInstance 44 = .ok (.iinc 2 1, 3) := by decide +kernel
theorem d_Rp_freeInstance_47 : decode b_Rp_freeInstance 47 = .ok (.goto (-37), 3) := by decide +kernel
theorem d_Rp_freeInstance_50 : decode b_Rp_freeInstance 50 = .ok (.iconst (-1), 1) := by decide +kernel
theorem d_Rp_freeInstance_51 : decode b_Rp_freeInstance 51 = .ok (.ireturn, 1) := by decide +kernel
theorem d_Cmd_init_0 : decode b_Cmd_init 0 = .ok (.aload_n 0, 1) := by decide +kernel
theorem d_Cmd_init_1 : decode b_Cmd_init 1 = .ok (.invokespecial 3, 3) := by decide +kernel
theorem d_Cmd_init_4 : decode b_Cmd_init 4 = .ok (.aload_n 0, 1) := by decide +kernel
theorem d_Cmd_init_5 : decode b_Cmd_init 5 = .ok (.iload_n 1, 1) := by decide +kernel
theorem d_Cmd_init_6 : decode b_Cmd_init 6 = .ok (.putfield 9, 3) := by decide +kernel
theorem d_Cmd_init_9 : decode b_Cmd_init 9 = .ok (.aload_n 0, 1) := by decide +kernel
theorem d_Cmd_init_10 : decode b_Cmd_init 10 = .ok (.iload_n 2, 1) := by decide +kernel
theorem d_Cmd_init_11 : decode b_Cmd_init 11 = .ok (.putfield 15, 3) := by decide +kernel
theorem d_Cmd_init_14 : decode b_Cmd_init 14 = .ok (.aload_n 0, 1) := by decide +kernel
theorem d_Cmd_init_15 : decode b_Cmd_init 15 = .ok (.iload_n 3, 1) := by decide +kernel
theorem d_Cmd_init_16 : decode b_Cmd_init 16 = .ok (.putfield 18, 3) := by decide +kernel
theorem d_Cmd_init_19 : decode b_Cmd_init 19 = .ok (.return_, 1) := by decide +kernel
theorem d_Or_init_0 : decode b_Or_init 0 = .ok (.aload_n 0, 1) := by decide +kernel
theorem d_Or_init_1 : decode b_Or_init 1 = .ok (.invokespecial 1, 3) := by decide +kernel
theorem d_Or_init_4 : decode b_Or_init 4 = .ok (.aload_n 0, 1) := by decide +kernel
theorem d_Or_init_5 : decode b_Or_init 5 = .ok (.aload_n 1, 1) := by decide +kernel
theorem d_Or_init_6 : decode b_Or_init 6 = .ok (.putfield 7, 3) := by decide +kernel
theorem d_Or_init_9 : decode b_Or_init 9 = .ok (.aload_n 0, 1) := by decide +kernel
theorem d_Or_init_10 : decode b_Or_init 10 = .ok (.iload_n 2, 1) := by decide +kernel
theorem d_Or_init_11 : decode b_Or_init 11 = .ok (.putfield 13, 3) := by decide +kernel
theorem d_Or_init_14 : decode b_Or_init 14 = .ok (.aload_n 0, 1) := by decide +kernel
theorem d_Or_init_15 : decode b_Or_init 15 = .ok (.iload_n 3, 1) := by decide +kernel
theorem d_Or_init_16 : decode b_Or_init 16 = .ok (.putfield 17, 3) := by decide +kernel
theorem d_Or_init_19 : decode b_Or_init 19 = .ok (.return_, 1) := by decide +kernel
theorem d_Cmd_interferesWith_0 : decode b_Cmd_interferesWith 0 = .ok (.aload_n 0, 1) := by decide +kernel
theorem d_Cmd_interferesWith_1 : decode b_Cmd_interferesWith 1 = .ok (.getfield 9, 3) := by decide +kernel
theorem d_Cmd_interferesWith_4 : decode b_Cmd_interferesWith 4 = .ok (.iconst 2, 1) := by decide +kernel
theorem d_Cmd_interferesWith_5 : decode b_Cmd_interferesWith 5 = .ok (.if_icmp .eq 11, 3) := by decide +kernel
theorem d_Cmd_interferesWith_8 : decode b_Cmd_interferesWith 8 = .ok (.aload_n 1, 1) := by decide +kernel
theorem d_Cmd_interferesWith_9 : decode b_Cmd_interferesWith 9 = .ok (.getfield 9, 3) := by decide +kernel
theorem d_Cmd_interferesWith_12 : decode b_Cmd_interferesWith 12 = .ok (.iconst 2, 1) := by decide +kernel
theorem d_Cmd_interferesWith_13 : decode b_Cmd_interferesWith 13 = .ok (.if_icmp .ne 5, 3) := by decide +kernel
theorem d_Cmd_interferesWith_16 : decode b_Cmd_interferesWith 16 = .ok (.iconst 1, 1) := by decide +kernel
theorem d_Cmd_interferesWith_17 : decode b_Cmd_interferesWith 17 = .ok (.ireturn, 1) := by decide +kernel
theorem d_Cmd_interferesWith_18 : decode b_Cmd_interferesWith 18 = .ok (.aload_n 0, 1) := by decide +kernel
theorem d_Cmd_interferesWith_19 : decode b_Cmd_interferesWith 19 = .ok (.getfield 15, 3) := by decide +kernel
theorem d_Cmd_interferesWith_22 : decode b_Cmd_interferesWith 22 = .ok (.aload_n 1, 1) := by decide +kernel
theorem d_Cmd_interferesWith_23 : decode b_Cmd_interferesWith 23 = .ok (.getfield 15, 3) := by decide +kernel
theorem d_Cmd_interferesWith_26 : decode b_Cmd_interferesWith 26 = .ok (.if_icmp .ne 23, 3) := by decide +kernel
theorem d_Cmd_interferesWith_29 : decode b_Cmd_interferesWith 29 = .ok (.aload_n 0, 1) := by decide +kernel
theorem d_Cmd_interferesWith_30 : decode b_Cmd_interferesWith 30 = .ok (.getfield 9, 3) := by decide +kernel
theorem d_Cmd_interferesWith_33 : decode b_Cmd_interferesWith 33 = .ok (.iconst 1, 1) := by decide +kernel
theorem d_Cmd_interferesWith_34 : decode b_Cmd_interferesWith 34 = .ok (.if_icmp .eq 11, 3) := by decide +kernel
theorem d_Cmd_interferesWith_37 : decode b_Cmd_interferesWith 37 = .ok (.aload_n 1, 1) := by decide +kernel
theorem d_Cmd_interferesWith_38 : decode b_Cmd_interferesWith 38 = .ok (.getfield 9, 3) := by decide +kernel
theorem d_Cmd_interferesWith_41 : decode b_Cmd_interferesWith 41 = .ok (.iconst 1, 1) := by decide +kernel
theorem d_Cmd_interferesWith_42 : decode b_Cmd_interferesWith 42 = .ok (.if_icmp .ne 7, 3) := by decide +kernel
theorem d_Cmd_interferesWith_45 : decode b_Cmd_interferesWith 45 = .ok (.iconst 1, 1) := by decide +kernel
theorem d_Cmd_interferesWith_46 : decode b_Cmd_interferesWith 46 = .ok (.goto 4, 3) := by decide +kernel
theorem d_Cmd_interferesWith_49 : decode b_Cmd_interferesWith 49 = .ok (.iconst 0, 1) := by decide +kernel
theorem d_Cmd_interferesWith_50 : decode b_Cmd_interferesWith 50 = .ok (.ireturn, 1) := by decide +kernel
theorem d_Rp_fitted_0 : decode b_Rp_fitted 0 = .ok (.aload_n 2, 1) := by decide +kernel
theorem d_Rp_fitted_1 : decode b_Rp_fitted 1 = .ok (.getfield 225, 3) := by decide +kernel
theorem d_Rp_fitted_4 : decode b_Rp_fitted 4 = .ok (.istore_n 3, 1) := by decide +kernel
theorem d_Rp_fitted_5 : decode b_Rp_fitted 5 = .ok (.aload_n 2, 1) := by decide +kernel
theorem d_Rp_fitted_6 : decode b_Rp_fitted 6 = .ok (.getfield 228, 3) := by decide +kernel
theorem d_Rp_fitted_9 : decode b_Rp_fitted 9 = .ok (.istore 4, 2) := by decide +kernel
theorem d_Rp_fitted_11 : decode b_Rp_fitted 11 = .ok (.iconst 0, 1) := by decide +kernel
theorem d_Rp_fitted_12 : decode b_Rp_fitted 12 = .ok (.istore 5, 2) := by decide +kernel
theorem d_Rp_fitted_14 : decode b_Rp_fitted 14 = .ok (.iload 5, 2) := by decide +kernel
theorem d_Rp_fitted_16 : decode b_Rp_fitted 16 = .ok (.aload_n 0, 1) := by decide +kernel
theorem d_Rp_fitted_17 : decode b_Rp_fitted 17 = .ok (.getfield 27, 3) := by decide +kernel
theorem d_Rp_fitted_20 : decode b_Rp_fitted 20 = .ok (.arraylength, 1) := by decide +kernel
theorem d_Rp_fitted_21 : decode b_Rp_fitted 21 = .ok (.if_icmp .ge 68, 3) := by decide +kernel
theorem d_Rp_fitted_24 : decode b_Rp_fitted 24 = .ok (.aload_n 0, 1) := by decide +kernel
theorem d_Rp_fitted_25 : decode b_Rp_fitted 25 = .ok (.getfield 27, 3) := by decide +kernel
theorem d_Rp_fitted_28 : decode b_Rp_fitted 28 = .ok (.iload 5, 2) := by decide +kernel
theorem d_Rp_fitted_30 : decode b_Rp_fitted 30 = .ok (.aaload, 1) := by decide +kernel
theorem d_Rp_fitted_31 : decode b_Rp_fitted 31 = .ok (.getfield 102, 3) := by decide +kernel
theorem d_Rp_fitted_34 : decode b_Rp_fitted 34 = .ok (.astore 6, 2) := by decide +kernel
theorem d_Rp_fitted_36 : decode b_Rp_fitted 36 = .ok (.iload 5, 2) := by decide +kernel
theorem d_Rp_fitted_38 : decode b_Rp_fitted 38 = .ok (.iload_n 1, 1) := by decide +kernel
theorem d_Rp_fitted_39 : decode b_Rp_fitted 39 = .ok (.if_icmp .eq 44, 3) := by decide +kernel
theorem d_Rp_fitted_42 : decode b_Rp_fitted 42 = .ok (.aload 6, 2) := by decide +kernel
theorem d_Rp_fitted_44 : decode b_Rp_fitted 44 = .ok (.ifnull 39, 3) := by decide +kernel
theorem d_Rp_fitted_47 : decode b_Rp_fitted 47 = .ok (.aload 6, 2) := by decide +kernel
theorem d_Rp_fitted_49 : decode b_Rp_fitted 49 = .ok (.getfield 154, 3) := by decide +kernel
theorem d_Rp_fitted_52 : decode b_Rp_fitted 52 = .ok (.aload_n 2, 1) := by decide +kernel
theorem d_Rp_fitted_53 : decode b_Rp_fitted 53 = .ok (.getfield 154, 3) := by decide +kernel
theorem d_Rp_fitted_56 : decode b_Rp_fitted 56 = .ok (.invokevirtual 231, 3) := by decide +kernel
theorem d_Rp_fitted_59 : decode b_Rp_fitted 59 = .ok (.ifCond .eq 24, 3) := by decide +kernel
theorem d_Rp_fitted_62 : decode b_Rp_fitted 62 = .ok (.iload_n 3, 1) := by decide +kernel
theorem d_Rp_fitted_63 : decode b_Rp_fitted 63 = .ok (.aload 6, 2) := by decide +kernel
theorem d_Rp_fitted_65 : decode b_Rp_fitted 65 = .ok (.getfield 225, 3) := by decide +kernel
theorem d_Rp_fitted_68 : decode b_Rp_fitted 68 = .ok (.iconst 1, 1) := by decide +kernel
theorem d_Rp_fitted_69 : decode b_Rp_fitted 69 = .ok (.iadd, 1) := by decide +kernel
theorem d_Rp_fitted_70 : decode b_Rp_fitted 70 = .ok (.invokestatic 235, 3) := by decide +kernel
theorem d_Rp_fitted_73 : decode b_Rp_fitted 73 = .ok (.istore_n 3, 1) := by decide +kernel
theorem d_Rp_fitted_74 : decode b_Rp_fitted 74 = .ok (.iload 4, 2) := by decide +kernel
theorem d_Rp_fitted_76 : decode b_Rp_fitted 76 = .ok (.iconst 1, 1) := by decide +kernel
theorem d_Rp_fitted_77 : decode b_Rp_fitted 77 = .ok (.iload 5, 2) := by decide +kernel
theorem d_Rp_fitted_79 : decode b_Rp_fitted 79 = .ok (.ishl, 1) := by decide +kernel
theorem d_Rp_fitted_80 : decode b_Rp_fitted 80 = .ok (.ior, 1) := by decide +kernel
theorem d_Rp_fitted_81 : decode b_Rp_fitted 81 = .ok (.istore 4, 2) := by decide +kernel
theorem d_Rp_fitted_83 : decode b_Rp_fitted 83 = .ok (.iinc 5 1, 3) := by decide +kernel
theorem d_Rp_fitted_86 : decode b_Rp_fitted 86 = .ok (.goto (-72), 3) := by decide +kernel
theorem d_Rp_fitted_89 : decode b_Rp_fitted 89 = .ok (.new 53, 3) := by decide +kernel
theorem d_Rp_fitted_92 : decode b_Rp_fitted 92 = .ok (.dup, 1) := by decide +kernel
theorem d_Rp_fitted_93 : decode b_Rp_fitted 93 = .ok (.aload_n 2, 1) := by decide +kernel
theorem d_Rp_fitted_94 : decode b_Rp_fitted 94 = .ok (.getfield 154, 3) := by decide +kernel
theorem d_Rp_fitted_97 : decode b_Rp_fitted 97 = .ok (.iload_n 3, 1) := by decide +kernel
theorem d_Rp_fitted_98 : decode b_Rp_fitted 98 = .ok (.iload 4, 2) := by decide +kernel
theorem d_Rp_fitted_100 : decode b_Rp_fitted 100 = .ok (.invokespecial 55, 3) := by decide +kernel
theorem d_Rp_fitted_103 : decode b_Rp_fitted 103 = .ok (.areturn, 1) := by decide +kernel
theorem d_En_become_0 : decode b_En_become 0 = .ok (.aload_n 0, 1) := by decide +kernel
theorem d_En_become_1 : decode b_En_become 1 = .ok (.iload_n 1, 1) := by decide +kernel
theorem d_En_become_2 : decode b_En_become 2 = .ok (.putfield 9, 3) := by decide +kernel
theorem d_En_become_5 : decode b_En_become 5 = .ok (.aload_n 0, 1) := by decide +kernel
theorem d_En_become_6 : decode b_En_become 6 = .ok (.aload_n 2, 1) := by decide +kernel
theorem d_En_become_7 : decode b_En_become 7 = .ok (.putfield 15, 3) := by decide +kernel
theorem d_En_become_10 : decode b_En_become 10 = .ok (.return_, 1) := by decide +kernel
theorem d_At_init_0 : decode b_At_init 0 = .ok (.aload_n 0, 1) := by decide +kernel
theorem d_At_init_1 : decode b_At_init 1 = .ok (.invokespecial 3, 3) := by decide +kernel
theorem d_At_init_4 : decode b_At_init 4 = .ok (.aload_n 0, 1) := by decide +kernel
theorem d_At_init_5 : decode b_At_init 5 = .ok (.iload_n 1, 1) := by decide +kernel
theorem d_At_init_6 : decode b_At_init 6 = .ok (.putfield 9, 3) := by decide +kernel
theorem d_At_init_9 : decode b_At_init 9 = .ok (.aload_n 0, 1) := by decide +kernel
theorem d_At_init_10 : decode b_At_init 10 = .ok (.iload_n 2, 1) := by decide +kernel
theorem d_At_init_11 : decode b_At_init 11 = .ok (.putfield 15, 3) := by decide +kernel
theorem d_At_init_14 : decode b_At_init 14 = .ok (.aload_n 0, 1) := by decide +kernel
theorem d_At_init_15 : decode b_At_init 15 = .ok (.iload_n 3, 1) := by decide +kernel
theorem d_At_init_16 : decode b_At_init 16 = .ok (.putfield 18, 3) := by decide +kernel
theorem d_At_init_19 : decode b_At_init 19 = .ok (.aload_n 0, 1) := by decide +kernel
theorem d_At_init_20 : decode b_At_init 20 = .ok (.iload 4, 2) := by decide +kernel
theorem d_At_init_22 : decode b_At_init 22 = .ok (.anewarray 22, 3) := by decide +kernel
theorem d_At_init_25 : decode b_At_init 25 = .ok (.putfield 24, 3) := by decide +kernel
theorem d_At_init_28 : decode b_At_init 28 = .ok (.return_, 1) := by decide +kernel
theorem d_Ms_init_0 : decode b_Ms_init 0 = .ok (.aload_n 0, 1) := by decide +kernel
theorem d_Ms_init_1 : decode b_Ms_init 1 = .ok (.invokespecial 3, 3) := by decide +kernel
theorem d_Ms_init_4 : decode b_Ms_init 4 = .ok (.aload_n 0, 1) := by decide +kernel
theorem d_Ms_init_5 : decode b_Ms_init 5 = .ok (.iload_n 1, 1) := by decide +kernel
theorem d_Ms_init_6 : decode b_Ms_init 6 = .ok (.putfield 9, 3) := by decide +kernel
theorem d_Ms_init_9 : decode b_Ms_init 9 = .ok (.aload_n 0, 1) := by decide +kernel
theorem d_Ms_init_10 : decode b_Ms_init 10 = .ok (.iload_n 2, 1) := by decide +kernel
theorem d_Ms_init_11 : decode b_Ms_init 11 = .ok (.putfield 15, 3) := by decide +kernel
theorem d_Ms_init_14 : decode b_Ms_init 14 = .ok (.aload_n 0, 1) := by decide +kernel
theorem d_Ms_init_15 : decode b_Ms_init 15 = .ok (.iload_n 3, 1) := by decide +kernel
theorem d_Ms_init_16 : decode b_Ms_init 16 = .ok (.putfield 18, 3) := by decide +kernel
theorem d_Ms_init_19 : decode b_Ms_init 19 = .ok (.aload_n 0, 1) := by decide +kernel
theorem d_Ms_init_20 : decode b_Ms_init 20 = .ok (.iload 4, 2) := by decide +kernel
theorem d_Ms_init_22 : decode b_Ms_init 22 = .ok (.putfield 21, 3) := by decide +kernel
theorem d_Ms_init_25 : decode b_Ms_init 25 = .ok (.aload_n 0, 1) := by decide +kernel
theorem d_Ms_init_26 : decode b_Ms_init 26 = .ok (.iload 5, 2) := by decide +kernel
theorem d_Ms_init_28 : decode b_Ms_init 28 = .ok (.putfield 24, 3) := by decide +kernel
theorem d_Ms_init_31 : decode b_Ms_init 31 = .ok (.aload_n 0, 1) := by decide +kernel
theorem d_Ms_init_32 : decode b_Ms_init 32 = .ok (.aload 6, 2) := by decide +kernel
theorem d_Ms_init_34 : decode b_Ms_init 34 = .ok (.putfield 27, 3) := by decide +kernel
theorem d_Ms_init_37 : decode b_Ms_init 37 = .ok (.aload_n 0, 1) := by decide +kernel
theorem d_Ms_init_38 : decode b_Ms_init 38 = .ok (.aload 7, 2) := by decide +kernel
theorem d_Ms_init_40 : decode b_Ms_init 40 = .ok (.putfield 31, 3) := by decide +kernel
theorem d_Ms_init_43 : decode b_Ms_init 43 = .ok (.return_, 1) := by decide +kernel
theorem d_Net_send_0 : decode b_Net_send 0 = .ok (.aload_n 0, 1) := by decide +kernel
theorem d_Net_send_1 : decode b_Net_send 1 = .ok (.getfield 17, 3) := by decide +kernel
theorem d_Net_send_4 : decode b_Net_send 4 = .ok (.bipush 40, 2) := by decide +kernel
theorem d_Net_send_6 : decode b_Net_send 6 = .ok (.if_icmp .lt 14, 3) := by decide +kernel
theorem d_Net_send_9 : decode b_Net_send 9 = .ok (.aload_n 0, 1) := by decide +kernel
theorem d_Net_send_10 : decode b_Net_send 10 = .ok (.dup, 1) := by decide +kernel
theorem d_Net_send_11 : decode b_Net_send 11 = .ok (.getfield 21, 3) := by decide +kernel
theorem d_Net_send_14 : decode b_Net_send 14 = .ok (.iconst 1, 1) := by decide +kernel
theorem d_Net_send_15 : decode b_Net_send 15 = .ok (.iadd, 1) := by decide +kernel
theorem d_Net_send_16 : decode b_Net_send 16 = .ok (.putfield 21, 3) := by decide +kernel
theorem d_Net_send_19 : decode b_Net_send 19 = .ok (.return_, 1) := by decide +kernel
theorem d_Net_send_20 : decode b_Net_send 20 = .ok (.aload_n 0, 1) := by decide +kernel
theorem d_Net_send_21 : decode b_Net_send 21 = .ok (.getfield 11, 3) := by decide +kernel
theorem d_Net_send_24 : decode b_Net_send 24 = .ok (.aload_n 0, 1) := by decide +kernel
theorem d_Net_send_25 : decode b_Net_send 25 = .ok (.getfield 17, 3) := by decide +kernel
theorem d_Net_send_28 : decode b_Net_send 28 = .ok (.aload_n 1, 1) := by decide +kernel
theorem d_Net_send_29 : decode b_Net_send 29 = .ok (.aastore, 1) := by decide +kernel
theorem d_Net_send_30 : decode b_Net_send 30 = .ok (.aload_n 0, 1) := by decide +kernel
theorem d_Net_send_31 : decode b_Net_send 31 = .ok (.dup, 1) := by decide +kernel
theorem d_Net_send_32 : decode b_Net_send 32 = .ok (.getfield 17, 3) := by decide +kernel
theorem d_Net_send_35 : decode b_Net_send 35 = .ok (.iconst 1, 1) := by decide +kernel
theorem d_Net_send_36 : decode b_Net_send 36 = .ok (.iadd, 1) := by decide +kernel
theorem d_Net_send_37 : decode b_Net_send 37 = .ok (.putfield 17, 3) := by decide +kernel
theorem d_Net_send_40 : decode b_Net_send 40 = .ok (.return_, 1) := by decide +kernel
theorem d_Rp_startCommand_0 : decode b_Rp_startCommand 0 = .ok (.aload_n 0, 1) := by decide +kernel
theorem d_Rp_startCommand_1 : decode b_Rp_startCommand 1 = .ok (.iload_n 1, 1) := by decide +kernel
theorem d_Rp_startCommand_2 : decode b_Rp_startCommand 2 = .ok (.new 53, 3) := by decide +kernel
theorem d_Rp_startCommand_5 : decode b_Rp_startCommand 5 = .ok (.dup, 1) := by decide +kernel
theorem d_Rp_startCommand_6 : decode b_Rp_startCommand 6 = .ok (.aload_n 2, 1) := by decide +kernel
theorem d_Rp_startCommand_7 : decode b_Rp_startCommand 7 = .ok (.iconst 1, 1) := by decide +kernel
theorem d_Rp_startCommand_8 : decode b_Rp_startCommand 8 = .ok (.iconst 0, 1) := by decide +kernel
theorem d_Rp_startCommand_9 : decode b_Rp_startCommand 9 = .ok (.invokespecial 55, 3) := by decide +kernel
theorem d_Rp_startCommand_12 : decode b_Rp_startCommand 12 = .ok (.invokevirtual 58, 3) := by decide +kernel
theorem d_Rp_startCommand_15 : decode b_Rp_startCommand 15 = .ok (.astore_n 3, 1) := by decide +kernel
theorem d_Rp_startCommand_16 : decode b_Rp_startCommand 16 = .ok (.aload_n 0, 1) := by decide +kernel
theorem d_Rp_startCommand_17 : decode b_Rp_startCommand 17 = .ok (.getfield 27, 3) := by decide +kernel
theorem d_Rp_startCommand_20 : decode b_Rp_startCommand 20 = .ok (.iload_n 1, 1) := by decide +kernel
theorem d_Rp_startCommand_21 : decode b_Rp_startCommand 21 = .ok (.aaload, 1) := by decide +kernel
theorem d_Rp_startCommand_22 : decode b_Rp_startCommand 22 = .ok (.iconst 1, 1) := by decide +kernel
theorem d_Rp_startCommand_23 : decode b_Rp_startCommand 23 = .ok (.aload_n 3, 1) := by decide +kernel
theorem d_Rp_startCommand_24 : decode b_Rp_startCommand 24 = .ok (.invokevirtual 62, 3) := by decide +kernel
theorem d_Rp_startCommand_27 : decode b_Rp_startCommand 27 = .ok (.aload_n 0, 1) := by decide +kernel
theorem d_Rp_startCommand_28 : decode b_Rp_startCommand 28 = .ok (.getfield 34, 3) := by decide +kernel
theorem d_Rp_startCommand_31 : decode b_Rp_startCommand 31 = .ok (.iload_n 1, 1) := by decide +kernel
theorem d_Rp_startCommand_32 : decode b_Rp_startCommand 32 = .ok (.new 32, 3) := by decide +kernel
theorem d_Rp_startCommand_35 : decode b_Rp_startCommand 35 = .ok (.dup, 1) := by decide +kernel
theorem d_Rp_startCommand_36 : decode b_Rp_startCommand 36 = .ok (.iconst 0, 1) := by decide +kernel
theorem d_Rp_startCommand_37 : decode b_Rp_startCommand 37 = .ok (.iconst 1, 1) := by decide +kernel
theorem d_Rp_startCommand_38 : decode b_Rp_startCommand 38 = .ok (.iconst 1, 1) := by decide +kernel
theorem d_Rp_startCommand_39 : decode b_Rp_startCommand 39 = .ok (.iconst 0, 1) := by decide +kernel
theorem d_Rp_startCommand_40 : decode b_Rp_startCommand 40 = .ok (.invokespecial 66, 3) := by decide +kernel
theorem d_Rp_startCommand_43 : decode b_Rp_startCommand 43 = .ok (.aastore, 1) := by decide +kernel
theorem d_Rp_startCommand_44 : decode b_Rp_startCommand 44 = .ok (.iconst 1, 1) := by decide +kernel
theorem d_Rp_startCommand_45 : decode b_Rp_startCommand 45 = .ok (.istore 4, 2) := by decide +kernel
theorem d_Rp_startCommand_47 : decode b_Rp_startCommand 47 = .ok (.iload 4, 2) := by decide +kernel
theorem d_Rp_startCommand_49 : decode b_Rp_startCommand 49 = .ok (.aload_n 0, 1) := by decide +kernel
theorem d_Rp_startCommand_50 : decode b_Rp_startCommand 50 = .ok (.getfield 15, 3) := by decide +kernel
theorem d_Rp_startCommand_53 : decode b_Rp_startCommand 53 = .ok (.iconst 2, 1) := by decide +kernel
theorem d_Rp_startCommand_54 : decode b_Rp_startCommand 54 = .ok (.isub, 1) := by decide +kernel
theorem d_Rp_startCommand_55 : decode b_Rp_startCommand 55 = .ok (.if_icmp .gt 48, 3) := by decide +kernel
theorem d_Rp_startCommand_58 : decode b_Rp_startCommand 58 = .ok (.aload_n 0, 1) := by decide +kernel
theorem d_Rp_startCommand_59 : decode b_Rp_startCommand 59 = .ok (.getfield 9, 3) := by decide +kernel
theorem d_Rp_startCommand_62 : decode b_Rp_startCommand 62 = .ok (.iload 4, 2) := by decide +kernel
theorem d_Rp_startCommand_64 : decode b_Rp_startCommand 64 = .ok (.iadd, 1) := by decide +kernel
theorem d_Rp_startCommand_65 : decode b_Rp_startCommand 65 = .ok (.aload_n 0, 1) := by decide +kernel
theorem d_Rp_startCommand_66 : decode b_Rp_startCommand 66 = .ok (.getfield 15, 3) := by decide +kernel
theorem d_Rp_startCommand_69 : decode b_Rp_startCommand 69 = .ok (.irem, 1) := by decide +kernel
theorem d_Rp_startCommand_70 : decode b_Rp_startCommand 70 = .ok (.istore 5, 2) := by decide +kernel
theorem d_Rp_startCommand_72 : decode b_Rp_startCommand 72 = .ok (.aload_n 0, 1) := by decide +kernel
theorem d_Rp_startCommand_73 : decode b_Rp_startCommand 73 = .ok (.getfield 21, 3) := by decide +kernel
theorem d_Rp_startCommand_76 : decode b_Rp_startCommand 76 = .ok (.new 69, 3) := by decide +kernel
theorem d_Rp_startCommand_79 : decode b_Rp_startCommand 79 = .ok (.dup, 1) := by decide +kernel
theorem d_Rp_startCommand_80 : decode b_Rp_startCommand 80 = .ok (.iconst 0, 1) := by decide +kernel
theorem d_Rp_startCommand_81 : decode b_Rp_startCommand 81 = .ok (.aload_n 0, 1) := by decide +kernel
theorem d_Rp_startCommand_82 : decode b_Rp_startCommand 82 = .ok (.getfield 9, 3) := by decide +kernel
theorem d_Rp_startCommand_85 : decode b_Rp_startCommand 85 = .ok (.iload 5, 2) := by decide +kernel
theorem d_Rp_startCommand_87 : decode b_Rp_startCommand 87 = .ok (.iload_n 1, 1) := by decide +kernel
theorem d_Rp_startCommand_88 : decode b_Rp_startCommand 88 = .ok (.iconst 0, 1) := by decide +kernel
theorem d_Rp_startCommand_89 : decode b_Rp_startCommand 89 = .ok (.aload_n 3, 1) := by decide +kernel
theorem d_Rp_startCommand_90 : decode b_Rp_startCommand 90 = .ok (.aconst_null, 1) := by decide +kernel
theorem d_Rp_startCommand_91 : decode b_Rp_startCommand 91 = .ok (.invokespecial 71, 3) := by decide +kernel
theorem d_Rp_startCommand_94 : decode b_Rp_startCommand 94 = .ok (.invokevirtual 74, 3) := by decide +kernel
theorem d_Rp_startCommand_97 : decode b_Rp_startCommand 97 = .ok (.iinc 4 1, 3) := by decide +kernel
theorem d_Rp_startCommand_100 : decode b_Rp_startCommand 100 = .ok (.goto (-53), 3) := by decide +kernel
theorem d_Rp_startCommand_103 : decode b_Rp_startCommand 103 = .ok (.return_, 1) := by decide +kernel
theorem d_LM_propose_0 : decode b_LM_propose 0 = .ok (.aload_n 0, 1) := by decide +kernel
theorem d_LM_propose_1 : decode b_LM_propose 1 = .ok (.iload_n 1, 1) := by decide +kernel
theorem d_LM_propose_2 : decode b_LM_propose 2 = .ok (.invokevirtual 32, 3) := by decide +kernel
theorem d_LM_propose_5 : decode b_LM_propose 5 = .ok (.astore 5, 2) := by decide +kernel
theorem d_LM_propose_7 : decode b_LM_propose 7 = .ok (.aload 5, 2) := by decide +kernel
theorem d_LM_propose_9 : decode b_LM_propose 9 = .ok (.ifnull 11, 3) := by decide +kernel
theorem d_LM_propose_12 : decode b_LM_propose 12 = .ok (.aload_n 0, 1) := by decide +kernel
theorem d_LM_propose_13 : decode b_LM_propose 13 = .ok (.iload_n 2, 1) := by decide +kernel
theorem d_LM_propose_14 : decode b_LM_propose 14 = .ok (.invokevirtual 36, 3) := by decide +kernel
theorem d_LM_propose_17 : decode b_LM_propose 17 = .ok (.ifCond .ne 5, 3) := by decide +kernel
theorem d_LM_propose_20 : decode b_LM_propose 20 = .ok (.iconst (-1), 1) := by decide +kernel
theorem d_LM_propose_21 : decode b_LM_propose 21 = .ok (.ireturn, 1) := by decide +kernel
theorem d_LM_propose_22 : decode b_LM_propose 22 = .ok (.aload 5, 2) := by decide +kernel
theorem d_LM_propose_24 : decode b_LM_propose 24 = .ok (.invokevirtual 40, 3) := by decide +kernel
theorem d_LM_propose_27 : decode b_LM_propose 27 = .ok (.istore 6, 2) := by decide +kernel
theorem d_LM_propose_29 : decode b_LM_propose 29 = .ok (.iload 6, 2) := by decide +kernel
theorem d_LM_propose_31 : decode b_LM_propose 31 = .ok (.ifCond .lt 29, 3) := by decide +kernel
theorem d_LM_propose_34 : decode b_LM_propose 34 = .ok (.aload 5, 2) := by decide +kernel
theorem d_LM_propose_36 : decode b_LM_propose 36 = .ok (.iload 6, 2) := by decide +kernel
theorem d_LM_propose_38 : decode b_LM_propose 38 = .ok (.new 44, 3) := by decide +kernel
theorem d_LM_propose_41 : decode b_LM_propose 41 = .ok (.dup, 1) := by decide +kernel
theorem d_LM_propose_42 : decode b_LM_propose 42 = .ok (.iload_n 3, 1) := by decide +kernel
theorem d_LM_propose_43 : decode b_LM_propose 43 = .ok (.ifCond .eq 7, 3) := by decide +kernel
theorem d_LM_propose_46 : decode b_LM_propose 46 = .ok (.iconst 1, 1) := by decide +kernel
theorem d_LM_propose_47 : decode b_LM_propose 47 = .ok (.goto 4, 3) := by decide +kernel
theorem d_LM_propose_50 : decode b_LM_propose 50 = .ok (.iconst 0, 1) := by decide +kernel
theorem d_LM_propose_51 : decode b_LM_propose 51 = .ok (.iload_n 2, 1) := by decide +kernel
theorem d_LM_propose_52 : decode b_LM_propose 52 = .ok (.iload 4, 2) := by decide +kernel
theorem d_LM_propose_54 : decode b_LM_propose 54 = .ok (.invokespecial 46, 3) := by decide +kernel
theorem d_LM_propose_57 : decode b_LM_propose 57 = .ok (.invokevirtual 49, 3) := by decide +kernel
theorem d_LM_propose_60 : decode b_LM_propose 60 = .ok (.iload 6, 2) := by decide +kernel
theorem d_LM_propose_62 : decode b_LM_propose 62 = .ok (.ireturn, 1) := by decide +kernel
theorem d_LM_entryAt_0 : decode b_LM_entryAt 0 = .ok (.aload_n 0, 1) := by decide +kernel
theorem d_LM_entryAt_1 : decode b_LM_entryAt 1 = .ok (.iload_n 1, 1) := by decide +kernel
theorem d_LM_entryAt_2 : decode b_LM_entryAt 2 = .ok (.invokevirtual 150, 3) := by decide +kernel
theorem d_LM_entryAt_5 : decode b_LM_entryAt 5 = .ok (.ifCond .eq 22, 3) := by decide +kernel
theorem d_LM_entryAt_8 : decode b_LM_entryAt 8 = .ok (.iload_n 2, 1) := by decide +kernel
theorem d_LM_entryAt_9 : decode b_LM_entryAt 9 = .ok (.ifCond .lt 18, 3) := by decide +kernel
theorem d_LM_entryAt_12 : decode b_LM_entryAt 12 = .ok (.iload_n 2, 1) := by decide +kernel
theorem d_LM_entryAt_13 : decode b_LM_entryAt 13 = .ok (.bipush 6, 2) := by decide +kernel
theorem d_LM_entryAt_15 : decode b_LM_entryAt 15 = .ok (.aload_n 0, 1) := by decide +kernel
theorem d_LM_entryAt_16 : decode b_LM_entryAt 16 = .ok (.getfield 7, 3) := by decide +kernel
theorem d_LM_entryAt_19 : decode b_LM_entryAt 19 = .ok (.imul, 1) := by decide +kernel
theorem d_LM_entryAt_20 : decode b_LM_entryAt 20 = .ok (.if_icmp .ge 7, 3) := by decide +kernel
theorem d_LM_entryAt_23 : decode b_LM_entryAt 23 = .ok (.iconst 1, 1) := by decide +kernel
theorem d_LM_entryAt_24 : decode b_LM_entryAt 24 = .ok (.goto 4, 3) := by decide +kernel
theorem d_LM_entryAt_27 : decode b_LM_entryAt 27 = .ok (.iconst 0, 1) := by decide +kernel
theorem d_LM_entryAt_28 : decode b_LM_entryAt 28 = .ok (.istore_n 3, 1) := by decide +kernel
theorem d_LM_entryAt_29 : decode b_LM_entryAt 29 = .ok (.iload_n 3, 1) := by decide +kernel
theorem d_LM_entryAt_30 : decode b_LM_entryAt 30 = .ok (.ifCond .eq 17, 3) := by decide +kernel
theorem d_LM_entryAt_33 : decode b_LM_entryAt 33 = .ok (.aload_n 0, 1) := by decide +kernel
theorem d_LM_entryAt_34 : decode b_LM_entryAt 34 = .ok (.getfield 25, 3) := by decide +kernel
theorem d_LM_entryAt_37 : decode b_LM_entryAt 37 = .ok (.iload_n 1, 1) := by decide +kernel
theorem d_LM_entryAt_38 : decode b_LM_entryAt 38 = .ok (.aaload, 1) := by decide +kernel
theorem d_LM_entryAt_39 : decode b_LM_entryAt 39 = .ok (.getfield 94, 3) := by decide +kernel
theorem d_LM_entryAt_42 : decode b_LM_entryAt 42 = .ok (.iload_n 2, 1) := by decide +kernel
theorem d_LM_entryAt_43 : decode b_LM_entryAt 43 = .ok (.aaload, 1) := by decide +kernel
theorem d_LM_entryAt_44 : decode b_LM_entryAt 44 = .ok (.goto 4, 3) := by decide +kernel
theorem d_LM_entryAt_47 : decode b_LM_entryAt 47 = .ok (.aconst_null, 1) := by decide +kernel
theorem d_LM_entryAt_48 : decode b_LM_entryAt 48 = .ok (.areturn, 1) := by decide +kernel
theorem d_En_isSettled_0 : decode b_En_isSettled 0 = .ok (.aload_n 0, 1) := by decide +kernel
theorem d_En_isSettled_1 : decode b_En_isSettled 1 = .ok (.getfield 9, 3) := by decide +kernel
theorem d_En_isSettled_4 : decode b_En_isSettled 4 = .ok (.iconst 3, 1) := by decide +kernel
theorem d_En_isSettled_5 : decode b_En_isSettled 5 = .ok (.if_icmp .eq 11, 3) := by decide +kernel
theorem d_En_isSettled_8 : decode b_En_isSettled 8 = .ok (.aload_n 0, 1) := by decide +kernel
theorem d_En_isSettled_9 : decode b_En_isSettled 9 = .ok (.getfield 9, 3) := by decide +kernel
theorem d_En_isSettled_12 : decode b_En_isSettled 12 = .ok (.iconst 4, 1) := by decide +kernel
theorem d_En_isSettled_13 : decode b_En_isSettled 13 = .ok (.if_icmp .ne 7, 3) := by decide +kernel
theorem d_En_isSettled_16 : decode b_En_isSettled 16 = .ok (.iconst 1, 1) := by decide +kernel
theorem d_En_isSettled_17 : decode b_En_isSettled 17 = .ok (.goto 4, 3) := by decide +kernel
theorem d_En_isSettled_20 : decode b_En_isSettled 20 = .ok (.iconst 0, 1) := by decide +kernel
theorem d_En_isSettled_21 : decode b_En_isSettled 21 = .ok (.ireturn, 1) := by decide +kernel
theorem d_Rp_nextBallot_0 : decode b_Rp_nextBallot 0 = .ok (.iload_n 1, 1) := by decide +kernel
theorem d_Rp_nextBallot_1 : decode b_Rp_nextBallot 1 = .ok (.iload_n 1, 1) := by decide +kernel
theorem d_Rp_nextBallot_2 : decode b_Rp_nextBallot 2 = .ok (.aload_n 0, 1) := by decide +kernel
theorem d_Rp_nextBallot_3 : decode b_Rp_nextBallot 3 = .ok (.getfield 15, 3) := by decide +kernel
theorem d_Rp_nextBallot_6 : decode b_Rp_nextBallot 6 = .ok (.irem, 1) := by decide +kernel
theorem d_Rp_nextBallot_7 : decode b_Rp_nextBallot 7 = .ok (.isub, 1) := by decide +kernel
theorem d_Rp_nextBallot_8 : decode b_Rp_nextBallot 8 = .ok (.aload_n 0, 1) := by decide +kernel
theorem d_Rp_nextBallot_9 : decode b_Rp_nextBallot 9 = .ok (.getfield 9, 3) := by decide +kernel
theorem d_Rp_nextBallot_12 : decode b_Rp_nextBallot 12 = .ok (.iadd, 1) := by decide +kernel
theorem d_Rp_nextBallot_13 : decode b_Rp_nextBallot 13 = .ok (.istore_n 2, 1) := by decide +kernel
theorem d_Rp_nextBallot_14 : decode b_Rp_nextBallot 14 = .ok (.iload_n 2, 1) := by decide +kernel
theorem d_Rp_nextBallot_15 : decode b_Rp_nextBallot 15 = .ok (.iload_n 1, 1) := by decide +kernel
theorem d_Rp_nextBallot_16 : decode b_Rp_nextBallot 16 = .ok (.if_icmp .le 7, 3) := by decide +kernel
theorem d_Rp_nextBallot_19 : decode b_Rp_nextBallot 19 = .ok (.iload_n 2, 1) := by decide +kernel
theorem d_Rp_nextBallot_20 : decode b_Rp_nextBallot 20 = .ok (.goto 9, 3) := by decide +kernel
theorem d_Rp_nextBallot_23 : decode b_Rp_nextBallot 23 = .ok (.iload_n 2, 1) := by decide +kernel
theorem d_Rp_nextBallot_24 : decode b_Rp_nextBallot 24 = .ok (.aload_n 0, 1) := by decide +kernel
theorem d_Rp_nextBallot_25 : decode b_Rp_nextBallot 25 = .ok (.getfield 15, 3) := by decide +kernel
theorem d_Rp_nextBallot_28 : decode b_Rp_nextBallot 28 = .ok (.iadd, 1) := by decide +kernel
theorem d_Rp_nextBallot_29 : decode b_Rp_nextBallot 29 = .ok (.ireturn, 1) := by decide +kernel
theorem d_Rp_sendToOthers_0 : decode b_Rp_sendToOthers 0 = .ok (.iconst 0, 1) := by decide +kernel
theorem d_Rp_sendToOthers_1 : decode b_Rp_sendToOthers 1 = .ok (.istore 5, 2) := by decide +kernel
theorem d_Rp_sendToOthers_3 : decode b_Rp_sendToOthers 3 = .ok (.iload 5, 2) := by decide +kernel
theorem d_Rp_sendToOthers_5 : decode b_Rp_sendToOthers 5 = .ok (.aload_n 0, 1) := by decide +kernel
theorem d_Rp_sendToOthers_6 : decode b_Rp_sendToOthers 6 = .ok (.getfield 15, 3) := by decide +kernel
theorem d_Rp_sendToOthers_9 : decode b_Rp_sendToOthers 9 = .ok (.if_icmp .ge 44, 3) := by decide +kernel
theorem d_Rp_sendToOthers_12 : decode b_Rp_sendToOthers 12 = .ok (.iload 5, 2) := by decide +kernel
theorem d_Rp_sendToOthers_14 : decode b_Rp_sendToOthers 14 = .ok (.aload_n 0, 1) := by decide +kernel
theorem d_Rp_sendToOthers_15 : decode b_Rp_sendToOthers 15 = .ok (.getfield 9, 3) := by decide +kernel
theorem d_Rp_sendToOthers_18 : decode b_Rp_sendToOthers 18 = .ok (.if_icmp .eq 29, 3) := by decide +kernel
theorem d_Rp_sendToOthers_21 : decode b_Rp_sendToOthers 21 = .ok (.aload_n 0, 1) := by decide +kernel
theorem d_Rp_sendToOthers_22 : decode b_Rp_sendToOthers 22 = .ok (.getfield 21, 3) := by decide +kernel
theorem d_Rp_sendToOthers_25 : decode b_Rp_sendToOthers 25 = .ok (.new 69, 3) := by decide +kernel
theorem d_Rp_sendToOthers_28 : decode b_Rp_sendToOthers 28 = .ok (.dup, 1) := by decide +kernel
theorem d_Rp_sendToOthers_29 : decode b_Rp_sendToOthers 29 = .ok (.iload_n 1, 1) := by decide +kernel
theorem d_Rp_sendToOthers_30 : decode b_Rp_sendToOthers 30 = .ok (.aload_n 0, 1) := by decide +kernel
theorem d_Rp_sendToOthers_31 : decode b_Rp_sendToOthers 31 = .ok (.getfield 9, 3) := by decide +kernel
theorem d_Rp_sendToOthers_34 : decode b_Rp_sendToOthers 34 = .ok (.iload 5, 2) := by decide +kernel
theorem d_Rp_sendToOthers_36 : decode b_Rp_sendToOthers 36 = .ok (.iload_n 2, 1) := by decide +kernel
theorem d_Rp_sendToOthers_37 : decode b_Rp_sendToOthers 37 = .ok (.iload_n 3, 1) := by decide +kernel
theorem d_Rp_sendToOthers_38 : decode b_Rp_sendToOthers 38 = .ok (.aload 4, 2) := by decide +kernel
theorem d_Rp_sendToOthers_40 : decode b_Rp_sendToOthers 40 = .ok (.aconst_null, 1) := by decide +kernel
theorem d_Rp_sendToOthers_41 : decode b_Rp_sendToOthers 41 = .ok (.invokespecial 71, 3) := by decide +kernel
theorem d_Rp_sendToOthers_44 : decode b_Rp_sendToOthers 44 = .ok (.invokevirtual 74, 3) := by decide +kernel
theorem d_Rp_sendToOthers_47 : decode b_Rp_sendToOthers 47 = .ok (.iinc 5 1, 3) := by decide +kernel
theorem d_Rp_sendToOthers_50 : decode b_Rp_sendToOthers 50 = .ok (.goto (-47), 3) := by decide +kernel
theorem d_Rp_sendToOthers_53 : decode b_Rp_sendToOthers 53 = .ok (.return_, 1) := by decide +kernel
theorem d_Rp_startPreparing_0 : decode b_Rp_startPreparing 0 = .ok (.aload_n 0, 1) := by decide +kernel
theorem d_Rp_startPreparing_1 : decode b_Rp_startPreparing 1 = .ok (.aload_n 0, 1) := by decide +kernel
theorem d_Rp_startPreparing_2 : decode b_Rp_startPreparing 2 = .ok (.getfield 27, 3) := by decide +kernel
theorem d_Rp_startPreparing_5 : decode b_Rp_startPreparing 5 = .ok (.iload_n 1, 1) := by decide +kernel
theorem d_Rp_startPreparing_6 : decode b_Rp_startPreparing 6 = .ok (.aaload, 1) := by decide +kernel
theorem d_Rp_startPreparing_7 : decode b_Rp_startPreparing 7 = .ok (.getfield 50, 3) := by decide +kernel
theorem d_Rp_startPreparing_10 : decode b_Rp_startPreparing 10 = .ok (.invokevirtual 80, 3) := by decide +kernel
theorem d_Rp_startPreparing_13 : decode b_Rp_startPreparing 13 = .ok (.istore_n 2, 1) := by decide +kernel
theorem d_Rp_startPreparing_14 : decode b_Rp_startPreparing 14 = .ok (.aload_n 0, 1) := by decide +kernel
theorem d_Rp_startPreparing_15 : decode b_Rp_startPreparing 15 = .ok (.getfield 27, 3) := by decide +kernel
theorem d_Rp_startPreparing_18 : decode b_Rp_startPreparing 18 = .ok (.iload_n 1, 1) := by decide +kernel
theorem d_Rp_startPreparing_19 : decode b_Rp_startPreparing 19 = .ok (.aaload, 1) := by decide +kernel
theorem d_Rp_startPreparing_20 : decode b_Rp_startPreparing 20 = .ok (.iload_n 2, 1) := by decide +kernel
theorem d_Rp_startPreparing_21 : decode b_Rp_startPreparing 21 = .ok (.putfield 50, 3) := by decide +kernel
theorem d_Rp_startPreparing_24 : decode b_Rp_startPreparing 24 = .ok (.aload_n 0, 1) := by decide +kernel
theorem d_Rp_startPreparing_25 : decode b_Rp_startPreparing 25 = .ok (.getfield 34, 3) := by decide +kernel
theorem d_Rp_startPreparing_28 : decode b_Rp_startPreparing 28 = .ok (.iload_n 1, 1) := by decide +kernel
theorem d_Rp_startPreparing_29 : decode b_Rp_startPreparing 29 = .ok (.new 32, 3) := by decide +kernel
theorem d_Rp_startPreparing_32 : decode b_Rp_startPreparing 32 = .ok (.dup, 1) := by decide +kernel
theorem d_Rp_startPreparing_33 : decode b_Rp_startPreparing 33 = .ok (.iload_n 2, 1) := by decide +kernel
theorem d_Rp_startPreparing_34 : decode b_Rp_startPreparing 34 = .ok (.iconst 0, 1) := by decide +kernel
theorem d_Rp_startPreparing_35 : decode b_Rp_startPreparing 35 = .ok (.iconst 0, 1) := by decide +kernel
theorem d_Rp_startPreparing_36 : decode b_Rp_startPreparing 36 = .ok (.aload_n 0, 1) := by decide +kernel
theorem d_Rp_startPreparing_37 : decode b_Rp_startPreparing 37 = .ok (.getfield 18, 3) := by decide +kernel
theorem d_Rp_startPreparing_40 : decode b_Rp_startPreparing 40 = .ok (.iconst 1, 1) := by decide +kernel
theorem d_Rp_startPreparing_41 : decode b_Rp_startPreparing 41 = .ok (.iadd, 1) := by decide +kernel
theorem d_Rp_startPreparing_42 : decode b_Rp_startPreparing 42 = .ok (.invokespecial 66, 3) := by decide +kernel
theorem d_Rp_startPreparing_45 : decode b_Rp_startPreparing 45 = .ok (.aastore, 1) := by decide +kernel
theorem d_Rp_startPreparing_46 : decode b_Rp_startPreparing 46 = .ok (.aload_n 0, 1) := by decide +kernel
theorem d_Rp_startPreparing_47 : decode b_Rp_startPreparing 47 = .ok (.iconst 5, 1) := by decide +kernel
theorem d_Rp_startPreparing_48 : decode b_Rp_startPreparing 48 = .ok (.iload_n 1, 1) := by decide +kernel
theorem d_Rp_startPreparing_49 : decode b_Rp_startPreparing 49 = .ok (.iload_n 2, 1) := by decide +kernel
theorem d_Rp_startPreparing_50 : decode b_Rp_startPreparing 50 = .ok (.aconst_null, 1) := by decide +kernel
theorem d_Rp_startPreparing_51 : decode b_Rp_startPreparing 51 = .ok (.invokevirtual 84, 3) := by decide +kernel
theorem d_Rp_startPreparing_54 : decode b_Rp_startPreparing 54 = .ok (.iload_n 2, 1) := by decide +kernel
theorem d_Rp_startPreparing_55 : decode b_Rp_startPreparing 55 = .ok (.ireturn, 1) := by decide +kernel
theorem d_LM_prepare_0 : decode b_LM_prepare 0 = .ok (.aload_n 0, 1) := by decide +kernel
theorem d_LM_prepare_1 : decode b_LM_prepare 1 = .ok (.iload_n 1, 1) := by decide +kernel
theorem d_LM_prepare_2 : decode b_LM_prepare 2 = .ok (.invokevirtual 32, 3) := by decide +kernel
theorem d_LM_prepare_5 : decode b_LM_prepare 5 = .ok (.astore_n 3, 1) := by decide +kernel
theorem d_LM_prepare_6 : decode b_LM_prepare 6 = .ok (.aload_n 0, 1) := by decide +kernel
theorem d_LM_prepare_7 : decode b_LM_prepare 7 = .ok (.iload_n 1, 1) := by decide +kernel
theorem d_LM_prepare_8 : decode b_LM_prepare 8 = .ok (.iload_n 2, 1) := by decide +kernel
theorem d_LM_prepare_9 : decode b_LM_prepare 9 = .ok (.invokevirtual 53, 3) := by decide +kernel
theorem d_LM_prepare_12 : decode b_LM_prepare 12 = .ok (.astore 4, 2) := by decide +kernel
theorem d_LM_prepare_14 : decode b_LM_prepare 14 = .ok (.aload_n 3, 1) := by decide +kernel
theorem d_LM_prepare_15 : decode b_LM_prepare 15 = .ok (.ifnull 16, 3) := by decide +kernel
theorem d_LM_prepare_18 : decode b_LM_prepare 18 = .ok (.aload 4, 2) := by decide +kernel
theorem d_LM_prepare_20 : decode b_LM_prepare 20 = .ok (.ifnull 11, 3) := by decide +kernel
theorem d_LM_prepare_23 : decode b_LM_prepare 23 = .ok (.aload 4, 2) := by decide +kernel
theorem d_LM_prepare_25 : decode b_LM_prepare 25 = .ok (.invokevirtual 57, 3) := by decide +kernel
theorem d_LM_prepare_28 : decode b_LM_prepare 28 = .ok (.ifCond .eq 5, 3) := by decide +kernel
theorem d_LM_prepare_31 : decode b_LM_prepare 31 = .ok (.iconst (-1), 1) := by decide +kernel
theorem d_LM_prepare_32 : decode b_LM_prepare 32 = .ok (.ireturn, 1) := by decide +kernel
theorem d_LM_prepare_33 : decode b_LM_prepare 33 = .ok (.aload_n 3, 1) := by decide +kernel
theorem d_LM_prepare_34 : decode b_LM_prepare 34 = .ok (.iload_n 2, 1) := by decide +kernel
theorem d_LM_prepare_35 : decode b_LM_prepare 35 = .ok (.invokevirtual 63, 3) := by decide +kernel
theorem d_LM_prepare_38 : decode b_LM_prepare 38 = .ok (.ireturn, 1) := by decide +kernel
theorem d_Net_at_0 : decode b_Net_at 0 = .ok (.iload_n 1, 1) := by decide +kernel
theorem d_Net_at_1 : decode b_Net_at 1 = .ok (.ifCond .lt 20, 3) := by decide +kernel
theorem d_Net_at_4 : decode b_Net_at 4 = .ok (.iload_n 1, 1) := by decide +kernel
theorem d_Net_at_5 : decode b_Net_at 5 = .ok (.aload_n 0, 1) := by decide +kernel
theorem d_Net_at_6 : decode b_Net_at 6 = .ok (.getfield 17, 3) := by decide +kernel
theorem d_Net_at_9 : decode b_Net_at 9 = .ok (.if_icmp .ge 12, 3) := by decide +kernel
theorem d_Net_at_12 : decode b_Net_at 12 = .ok (.aload_n 0, 1) := by decide +kernel
theorem d_Net_at_13 : decode b_Net_at 13 = .ok (.getfield 11, 3) := by decide +kernel
theorem d_Net_at_16 : decode b_Net_at 16 = .ok (.iload_n 1, 1) := by decide +kernel
theorem d_Net_at_17 : decode b_Net_at 17 = .ok (.aaload, 1) := by decide +kernel
theorem d_Net_at_18 : decode b_Net_at 18 = .ok (.goto 4, 3) := by decide +kernel
theorem d_Net_at_21 : decode b_Net_at 21 = .ok (.aconst_null, 1) := by decide +kernel
theorem d_Net_at_22 : decode b_Net_at 22 = .ok (.areturn, 1) := by decide +kernel
theorem d_Net_take_0 : decode b_Net_take 0 = .ok (.aload_n 0, 1) := by decide +kernel
theorem d_Net_take_1 : decode b_Net_take 1 = .ok (.iload_n 1, 1) := by decide +kernel
theorem d_Net_take_2 : decode b_Net_take 2 = .ok (.invokevirtual 24, 3) := by decide +kernel
theorem d_Net_take_5 : decode b_Net_take 5 = .ok (.astore_n 2, 1) := by decide +kernel
theorem d_Net_take_6 : decode b_Net_take 6 = .ok (.aload_n 2, 1) := by decide +kernel
theorem d_Net_take_7 : decode b_Net_take 7 = .ok (.ifnonnull 5, 3) := by decide +kernel
theorem d_Net_take_10 : decode b_Net_take 10 = .ok (.aconst_null, 1) := by decide +kernel
theorem d_Net_take_11 : decode b_Net_take 11 = .ok (.areturn, 1) := by decide +kernel
theorem d_Net_take_12 : decode b_Net_take 12 = .ok (.aload_n 0, 1) := by decide +kernel
theorem d_Net_take_13 : decode b_Net_take 13 = .ok (.dup, 1) := by decide +kernel
theorem d_Net_take_14 : decode b_Net_take 14 = .ok (.getfield 17, 3) := by decide +kernel
theorem d_Net_take_17 : decode b_Net_take 17 = .ok (.iconst 1, 1) := by decide +kernel
theorem d_Net_take_18 : decode b_Net_take 18 = .ok (.isub, 1) := by decide +kernel
theorem d_Net_take_19 : decode b_Net_take 19 = .ok (.putfield 17, 3) := by decide +kernel
theorem d_Net_take_22 : decode b_Net_take 22 = .ok (.iload_n 1, 1) := by decide +kernel
theorem d_Net_take_23 : decode b_Net_take 23 = .ok (.istore_n 3, 1) := by decide +kernel
theorem d_Net_take_24 : decode b_Net_take 24 = .ok (.iload_n 3, 1) := by decide +kernel
theorem d_Net_take_25 : decode b_Net_take 25 = .ok (.aload_n 0, 1) := by decide +kernel
theorem d_Net_take_26 : decode b_Net_take 26 = .ok (.getfield 17, 3) := by decide +kernel
theorem d_Net_take_29 : decode b_Net_take 29 = .ok (.if_icmp .ge 23, 3) := by decide +kernel
theorem d_Net_take_32 : decode b_Net_take 32 = .ok (.aload_n 0, 1) := by decide +kernel
theorem d_Net_take_33 : decode b_Net_take 33 = .ok (.getfield 11, 3) := by decide +kernel
theorem d_Net_take_36 : decode b_Net_take 36 = .ok (.iload_n 3, 1) := by decide +kernel
theorem d_Net_take_37 : decode b_Net_take 37 = .ok (.aload_n 0, 1) := by decide +kernel
theorem d_Net_take_38 : decode b_Net_take 38 = .ok (.getfield 11, 3) := by decide +kernel
theorem d_Net_take_41 : decode b_Net_take 41 = .ok (.iload_n 3, 1) := by decide +kernel
theorem d_Net_take_42 : decode b_Net_take 42 = .ok (.iconst 1, 1) := by decide +kernel
theorem d_Net_take_43 : decode b_Net_take 43 = .ok (.iadd, 1) := by decide +kernel
theorem d_Net_take_44 : decode b_Net_take 44 = .ok (.aaload, 1) := by decide +kernel
theorem d_Net_take_45 : decode b_Net_take 45 = .ok (.aastore, 1) := by decide +kernel
theorem d_Net_take_46 : decode b_Net_take 46 = .ok (.iinc 3 1, 3) := by decide +kernel
theorem d_Net_take_49 : decode b_Net_take 49 = .ok (.goto (-25), 3) := by decide +kernel
theorem d_Net_take_52 : decode b_Net_take 52 = .ok (.aload_n 0, 1) := by decide +kernel
theorem d_Net_take_53 : decode b_Net_take 53 = .ok (.getfield 11, 3) := by decide +kernel
theorem d_Net_take_56 : decode b_Net_take 56 = .ok (.aload_n 0, 1) := by decide +kernel
theorem d_Net_take_57 : decode b_Net_take 57 = .ok (.getfield 17, 3) := by decide +kernel
theorem d_Net_take_60 : decode b_Net_take 60 = .ok (.aconst_null, 1) := by decide +kernel
theorem d_Net_take_61 : decode b_Net_take 61 = .ok (.aastore, 1) := by decide +kernel
theorem d_Net_take_62 : decode b_Net_take 62 = .ok (.aload_n 2, 1) := by decide +kernel
theorem d_Net_take_63 : decode b_Net_take 63 = .ok (.areturn, 1) := by decide +kernel
theorem d_Ms_asksForVote_0 : decode b_Ms_asksForVote 0 = .ok (.aload_n 0, 1) := by decide +kernel
theorem d_Ms_asksForVote_1 : decode b_Ms_asksForVote 1 = .ok (.getfield 9, 3) := by decide +kernel
theorem d_Ms_asksForVote_4 : decode b_Ms_asksForVote 4 = .ok (.ifCond .eq 19, 3) := by decide +kernel
theorem d_Ms_asksForVote_7 : decode b_Ms_asksForVote 7 = .ok (.aload_n 0, 1) := by decide +kernel
theorem d_Ms_asksForVote_8 : decode b_Ms_asksForVote 8 = .ok (.getfield 9, 3) := by decide +kernel
theorem d_Ms_asksForVote_11 : decode b_Ms_asksForVote 11 = .ok (.iconst 2, 1) := by decide +kernel
theorem d_Ms_asksForVote_12 : decode b_Ms_asksForVote 12 = .ok (.if_icmp .eq 11, 3) := by decide +kernel
theorem d_Ms_asksForVote_15 : decode b_Ms_asksForVote 15 = .ok (.aload_n 0, 1) := by decide +kernel
theorem d_Ms_asksForVote_16 : decode b_Ms_asksForVote 16 = .ok (.getfield 9, 3) := by decide +kernel
theorem d_Ms_asksForVote_19 : decode b_Ms_asksForVote 19 = .ok (.iconst 5, 1) := by decide +kernel
theorem d_Ms_asksForVote_20 : decode b_Ms_asksForVote 20 = .ok (.if_icmp .ne 7, 3) := by decide +kernel
theorem d_Ms_asksForVote_23 : decode b_Ms_asksForVote 23 = .ok (.iconst 1, 1) := by decide +kernel
theorem d_Ms_asksForVote_24 : decode b_Ms_asksForVote 24 = .ok (.goto 4, 3) := by decide +kernel
theorem d_Ms_asksForVote_27 : decode b_Ms_asksForVote 27 = .ok (.iconst 0, 1) := by decide +kernel
theorem d_Ms_asksForVote_28 : decode b_Ms_asksForVote 28 = .ok (.ireturn, 1) := by decide +kernel
theorem d_Rp_sendBack_0 : decode b_Rp_sendBack 0 = .ok (.aload_n 0, 1) := by decide +kernel
theorem d_Rp_sendBack_1 : decode b_Rp_sendBack 1 = .ok (.getfield 21, 3) := by decide +kernel
theorem d_Rp_sendBack_4 : decode b_Rp_sendBack 4 = .ok (.new 69, 3) := by decide +kernel
theorem d_Rp_sendBack_7 : decode b_Rp_sendBack 7 = .ok (.dup, 1) := by decide +kernel
theorem d_Rp_sendBack_8 : decode b_Rp_sendBack 8 = .ok (.iload_n 2, 1) := by decide +kernel
theorem d_Rp_sendBack_9 : decode b_Rp_sendBack 9 = .ok (.aload_n 0, 1) := by decide +kernel
theorem d_Rp_sendBack_10 : decode b_Rp_sendBack 10 = .ok (.getfield 9, 3) := by decide +kernel
theorem d_Rp_sendBack_13 : decode b_Rp_sendBack 13 = .ok (.aload_n 1, 1) := by decide +kernel
theorem d_Rp_sendBack_14 : decode b_Rp_sendBack 14 = .ok (.getfield 241, 3) := by decide +kernel
theorem d_Rp_sendBack_17 : decode b_Rp_sendBack 17 = .ok (.aload_n 1, 1) := by decide +kernel
theorem d_Rp_sendBack_18 : decode b_Rp_sendBack 18 = .ok (.getfield 92, 3) := by decide +kernel
theorem d_Rp_sendBack_21 : decode b_Rp_sendBack 21 = .ok (.aload_n 1, 1) := by decide +kernel
theorem d_Rp_sendBack_22 : decode b_Rp_sendBack 22 = .ok (.getfield 138, 3) := by decide +kernel
theorem d_Rp_sendBack_25 : decode b_Rp_sendBack 25 = .ok (.aload_n 3, 1) := by decide +kernel
theorem d_Rp_sendBack_26 : decode b_Rp_sendBack 26 = .ok (.aload 4, 2) := by decide +kernel
theorem d_Rp_sendBack_28 : decode b_Rp_sendBack 28 = .ok (.invokespecial 71, 3) := by decide +kernel
theorem d_Rp_sendBack_31 : decode b_Rp_sendBack 31 = .ok (.invokevirtual 74, 3) := by decide +kernel
theorem d_Rp_sendBack_34 : decode b_Rp_sendBack 34 = .ok (.return_, 1) := by decide +kernel
theorem d_En_vote_0 : decode b_En_vote 0 = .ok (.aload_n 0, 1) := by decide +kernel
theorem d_En_vote_1 : decode b_En_vote 1 = .ok (.iload_n 3, 1) := by decide +kernel
theorem d_En_vote_2 : decode b_En_vote 2 = .ok (.putfield 19, 3) := by decide +kernel
theorem d_En_vote_5 : decode b_En_vote 5 = .ok (.aload_n 0, 1) := by decide +kernel
theorem d_En_vote_6 : decode b_En_vote 6 = .ok (.iload_n 3, 1) := by decide +kernel
theorem d_En_vote_7 : decode b_En_vote 7 = .ok (.putfield 22, 3) := by decide +kernel
theorem d_En_vote_10 : decode b_En_vote 10 = .ok (.aload_n 0, 1) := by decide +kernel
theorem d_En_vote_11 : decode b_En_vote 11 = .ok (.iload_n 1, 1) := by decide +kernel
theorem d_En_vote_12 : decode b_En_vote 12 = .ok (.aload_n 2, 1) := by decide +kernel
theorem d_En_vote_13 : decode b_En_vote 13 = .ok (.invokevirtual 25, 3) := by decide +kernel
theorem d_En_vote_16 : decode b_En_vote 16 = .ok (.return_, 1) := by decide +kernel
theorem d_Rp_onPreaccept_0 : decode b_Rp_onPreaccept 0 = .ok (.aload_n 2, 1) := by decide +kernel
theorem d_Rp_onPreaccept_1 : decode b_Rp_onPreaccept 1 = .ok (.getfield 47, 3) := by decide +kernel
theorem d_Rp_onPreaccept_4 : decode b_Rp_onPreaccept 4 = .ok (.iconst 2, 1) := by decide +kernel
theorem d_Rp_onPreaccept_5 : decode b_Rp_onPreaccept 5 = .ok (.if_icmp .ne 18, 3) := by decide +kernel
theorem d_Rp_onPreaccept_8 : decode b_Rp_onPreaccept 8 = .ok (.aload_n 2, 1) := by decide +kernel
theorem d_Rp_onPreaccept_9 : decode b_Rp_onPreaccept 9 = .ok (.getfield 135, 3) := by decide +kernel
theorem d_Rp_onPreaccept_12 : decode b_Rp_onPreaccept 12 = .ok (.aload_n 1, 1) := by decide +kernel
theorem d_Rp_onPreaccept_13 : decode b_Rp_onPreaccept 13 = .ok (.getfield 138, 3) := by decide +kernel
theorem d_Rp_onPreaccept_16 : decode b_Rp_onPreaccept 16 = .ok (.if_icmp .ne 7, 3) := by decide +kernel
theorem d_Rp_onPreaccept_19 : decode b_Rp_onPreaccept 19 = .ok (.iconst 1, 1) := by decide +kernel
theorem d_Rp_onPreaccept_20 : decode b_Rp_onPreaccept 20 = .ok (.goto 4, 3) := by decide +kernel
theorem d_Rp_onPreaccept_23 : decode b_Rp_onPreaccept 23 = .ok (.iconst 0, 1) := by decide +kernel
theorem d_Rp_onPreaccept_24 : decode b_Rp_onPreaccept 24 = .ok (.istore_n 3, 1) := by decide +kernel
theorem d_Rp_onPreaccept_25 : decode b_Rp_onPreaccept 25 = .ok (.aload_n 1, 1) := by decide +kernel
theorem d_Rp_onPreaccept_26 : decode b_Rp_onPreaccept 26 = .ok (.getfield 138, 3) := by decide +kernel
theorem d_Rp_onPreaccept_29 : decode b_Rp_onPreaccept 29 = .ok (.aload_n 2, 1) := by decide +kernel
theorem d_Rp_onPreaccept_30 : decode b_Rp_onPreaccept 30 = .ok (.getfield 50, 3) := by decide +kernel
theorem d_Rp_onPreaccept_33 : decode b_Rp_onPreaccept 33 = .ok (.if_icmp .lt 7, 3) := by decide +kernel
theorem d_Rp_onPreaccept_36 : decode b_Rp_onPreaccept 36 = .ok (.iload_n 3, 1) := by decide +kernel
theorem d_Rp_onPreaccept_37 : decode b_Rp_onPreaccept 37 = .ok (.ifCond .eq 4, 3) := by decide +kernel
theorem d_Rp_onPreaccept_40 : decode b_Rp_onPreaccept 40 = .ok (.return_, 1) := by decide +kernel
theorem d_Rp_onPreaccept_41 : decode b_Rp_onPreaccept 41 = .ok (.aload_n 2, 1) := by decide +kernel
theorem d_Rp_onPreaccept_42 : decode b_Rp_onPreaccept 42 = .ok (.iconst 1, 1) := by decide +kernel
theorem d_Rp_onPreaccept_43 : decode b_Rp_onPreaccept 43 = .ok (.aload_n 0, 1) := by decide +kernel
theorem d_Rp_onPreaccept_44 : decode b_Rp_onPreaccept 44 = .ok (.aload_n 1, 1) := by decide +kernel
theorem d_Rp_onPreaccept_45 : decode b_Rp_onPreaccept 45 = .ok (.getfield 92, 3) := by decide +kernel
theorem d_Rp_onPreaccept_48 : decode b_Rp_onPreaccept 48 = .ok (.aload_n 1, 1) := by decide +kernel
theorem d_Rp_onPreaccept_49 : decode b_Rp_onPreaccept 49 = .ok (.getfield 141, 3) := by decide +kernel
theorem d_Rp_onPreaccept_52 : decode b_Rp_onPreaccept 52 = .ok (.invokevirtual 58, 3) := by decide +kernel
theorem d_Rp_onPreaccept_55 : decode b_Rp_onPreaccept 55 = .ok (.aload_n 1, 1) := by decide +kernel
theorem d_Rp_onPreaccept_56 : decode b_Rp_onPreaccept 56 = .ok (.getfield 138, 3) := by decide +kernel
theorem d_Rp_onPreaccept_59 : decode b_Rp_onPreaccept 59 = .ok (.invokevirtual 142, 3) := by decide +kernel
theorem d_Rp_onPreaccept_62 : decode b_Rp_onPreaccept 62 = .ok (.aload_n 0, 1) := by decide +kernel
theorem d_Rp_onPreaccept_63 : decode b_Rp_onPreaccept 63 = .ok (.aload_n 1, 1) := by decide +kernel
theorem d_Rp_onPreaccept_64 : decode b_Rp_onPreaccept 64 = .ok (.iconst 1, 1) := by decide +kernel
theorem d_Rp_onPreaccept_65 : decode b_Rp_onPreaccept 65 = .ok (.aload_n 2, 1) := by decide +kernel
theorem d_Rp_onPreaccept_66 : decode b_Rp_onPreaccept 66 = .ok (.getfield 102, 3) := by decide +kernel
theorem d_Rp_onPreaccept_69 : decode b_Rp_onPreaccept 69 = .ok (.aconst_null, 1) := by decide +kernel
theorem d_Rp_onPreaccept_70 : decode b_Rp_onPreaccept 70 = .ok (.invokevirtual 106, 3) := by decide +kernel
theorem d_Rp_onPreaccept_73 : decode b_Rp_onPreaccept 73 = .ok (.return_, 1) := by decide +kernel
theorem d_Rp_liveAttempt_0 : decode b_Rp_liveAttempt 0 = .ok (.aload_n 0, 1) := by decide +kernel
theorem d_Rp_liveAttempt_1 : decode b_Rp_liveAttempt 1 = .ok (.getfield 34, 3) := by decide +kernel
theorem d_Rp_liveAttempt_4 : decode b_Rp_liveAttempt 4 = .ok (.aload_n 1, 1) := by decide +kernel
theorem d_Rp_liveAttempt_5 : decode b_Rp_liveAttempt 5 = .ok (.getfield 92, 3) := by decide +kernel
theorem d_Rp_liveAttempt_8 : decode b_Rp_liveAttempt 8 = .ok (.aaload, 1) := by decide +kernel
theorem d_Rp_liveAttempt_9 : decode b_Rp_liveAttempt 9 = .ok (.astore_n 3, 1) := by decide +kernel
theorem d_Rp_liveAttempt_10 : decode b_Rp_liveAttempt 10 = .ok (.aload_n 0, 1) := by decide +kernel
theorem d_Rp_liveAttempt_11 : decode b_Rp_liveAttempt 11 = .ok (.getfield 27, 3) := by decide +kernel
theorem d_Rp_liveAttempt_14 : decode b_Rp_liveAttempt 14 = .ok (.aload_n 1, 1) := by decide +kernel
theorem d_Rp_liveAttempt_15 : decode b_Rp_liveAttempt 15 = .ok (.getfield 92, 3) := by decide +kernel
theorem d_Rp_liveAttempt_18 : decode b_Rp_liveAttempt 18 = .ok (.aaload, 1) := by decide +kernel
theorem d_Rp_liveAttempt_19 : decode b_Rp_liveAttempt 19 = .ok (.astore 4, 2) := by decide +kernel
theorem d_Rp_liveAttempt_21 : decode b_Rp_liveAttempt 21 = .ok (.aload_n 3, 1) := by decide +kernel
theorem d_Rp_liveAttempt_22 : decode b_Rp_liveAttempt 22 = .ok (.ifnull 22, 3) := by decide +kernel
theorem d_Rp_liveAttempt_25 : decode b_Rp_liveAttempt 25 = .ok (.aload_n 3, 1) := by decide +kernel
theorem d_Rp_liveAttempt_26 : decode b_Rp_liveAttempt 26 = .ok (.getfield 222, 3) := by decide +kernel
theorem d_Rp_liveAttempt_29 : decode b_Rp_liveAttempt 29 = .ok (.iload_n 2, 1) := by decide +kernel
theorem d_Rp_liveAttempt_30 : decode b_Rp_liveAttempt 30 = .ok (.if_icmp .ne 14, 3) := by decide +kernel
theorem d_Rp_liveAttempt_33 : decode b_Rp_liveAttempt 33 = .ok (.aload_n 3, 1) := by decide +kernel
theorem d_Rp_liveAttempt_34 : decode b_Rp_liveAttempt 34 = .ok (.getfield 218, 3) := by decide +kernel
theorem d_Rp_liveAttempt_37 : decode b_Rp_liveAttempt 37 = .ok (.aload_n 1, 1) := by decide +kernel
theorem d_Rp_liveAttempt_38 : decode b_Rp_liveAttempt 38 = .ok (.getfield 138, 3) := by decide +kernel
theorem d_Rp_liveAttempt_41 : decode b_Rp_liveAttempt 41 = .ok (.if_icmp .eq 5, 3) := by decide +kernel
theorem d_Rp_liveAttempt_44 : decode b_Rp_liveAttempt 44 = .ok (.aconst_null, 1) := by decide +kernel
theorem d_Rp_liveAttempt_45 : decode b_Rp_liveAttempt 45 = .ok (.areturn, 1) := by decide +kernel
theorem d_Rp_liveAttempt_46 : decode b_Rp_liveAttempt 46 = .ok (.aload_n 3, 1) := by decide +kernel
theorem d_Rp_liveAttempt_47 : decode b_Rp_liveAttempt 47 = .ok (.getfield 218, 3) := by decide +kernel
theorem d_Rp_liveAttempt_50 : decode b_Rp_liveAttempt 50 = .ok (.aload 4, 2) := by decide +kernel
theorem d_Rp_liveAttempt_52 : decode b_Rp_liveAttempt 52 = .ok (.getfield 50, 3) := by decide +kernel
theorem d_Rp_liveAttempt_55 : decode b_Rp_liveAttempt 55 = .ok (.if_icmp .ne 15, 3) := by decide +kernel
theorem d_Rp_liveAttempt_58 : decode b_Rp_liveAttempt 58 = .ok (.aload 4, 2) := by decide +kernel
theorem d_Rp_liveAttempt_60 : decode b_Rp_liveAttempt 60 = .ok (.invokevirtual 99, 3) := by decide +kernel
theorem d_Rp_liveAttempt_63 : decode b_Rp_liveAttempt 63 = .ok (.ifCond .ne 7, 3) := by decide +kernel
theorem d_Rp_liveAttempt_66 : decode b_Rp_liveAttempt 66 = .ok (.aload_n 3, 1) := by decide +kernel
theorem d_Rp_liveAttempt_67 : decode b_Rp_liveAttempt 67 = .ok (.goto 4, 3) := by decide +kernel
theorem d_Rp_liveAttempt_70 : decode b_Rp_liveAttempt 70 = .ok (.aconst_null, 1) := by decide +kernel
theorem d_Rp_liveAttempt_71 : decode b_Rp_liveAttempt 71 = .ok (.areturn, 1) := by decide +kernel
end
section
theorem d_At_countOrder_0 : decode b_At_countOrder 0 = .ok (.aload_n 0, 1) := by decide +kernel
theorem d_At_countOrder_1 : decode b_At_countOrder 1 = .ok (.aload_n 0, 1) := by decide +kernel
theorem d_At_countOrder_2 : decode b_At_countOrder 2 = .ok (.getfield 28, 3) := by decide +kernel
theorem d_At_countOrder_5 : decode b_At_countOrder 5 = .ok (.ifCond .eq 32, 3) := by decide +kernel
theorem d_At_countOrder_8 : decode b_At_countOrder 8 = .ok (.aload_n 0, 1) := by decide +kernel
theorem d_At_countOrder_9 : decode b_At_countOrder 9 = .ok (.getfield 31, 3) := by decide +kernel
theorem d_At_countOrder_12 : decode b_At_countOrder 12 = .ok (.ifCond .eq 29, 3) := by decide +kernel
theorem d_At_countOrder_15 : decode b_At_countOrder 15 = .ok (.aload_n 1, 1) := by decide +kernel
theorem d_At_countOrder_16 : decode b_At_countOrder 16 = .ok (.getfield 34, 3) := by decide +kernel
theorem d_At_countOrder_19 : decode b_At_countOrder 19 = .ok (.aload_n 0, 1) := by decide +kernel
theorem d_At_countOrder_20 : decode b_At_countOrder 20 = .ok (.getfield 39, 3) := by decide +kernel
theorem d_At_countOrder_23 : decode b_At_countOrder 23 = .ok (.if_icmp .ne 18, 3) := by decide +kernel
theorem d_At_countOrder_26 : decode b_At_countOrder 26 = .ok (.aload_n 1, 1) := by decide +kernel
theorem d_At_countOrder_27 : decode b_At_countOrder 27 = .ok (.getfield 42, 3) := by decide +kernel
theorem d_At_countOrder_30 : decode b_At_countOrder 30 = .ok (.aload_n 0, 1) := by decide +kernel
theorem d_At_countOrder_31 : decode b_At_countOrder 31 = .ok (.getfield 45, 3) := by decide +kernel
theorem d_At_countOrder_34 : decode b_At_countOrder 34 = .ok (.if_icmp .ne 7, 3) := by decide +kernel
theorem d_At_countOrder_37 : decode b_At_countOrder 37 = .ok (.iconst 1, 1) := by decide +kernel
theorem d_At_countOrder_38 : decode b_At_countOrder 38 = .ok (.goto 4, 3) := by decide +kernel
theorem d_At_countOrder_41 : decode b_At_countOrder 41 = .ok (.iconst 0, 1) := by decide +kernel
theorem d_At_countOrder_42 : decode b_At_countOrder 42 = .ok (.putfield 31, 3) := by decide +kernel
theorem d_At_countOrder_45 : decode b_At_countOrder 45 = .ok (.aload_n 0, 1) := by decide +kernel
theorem d_At_countOrder_46 : decode b_At_countOrder 46 = .ok (.aload_n 0, 1) := by decide +kernel
theorem d_At_countOrder_47 : decode b_At_countOrder 47 = .ok (.getfield 28, 3) := by decide +kernel
theorem d_At_countOrder_50 : decode b_At_countOrder 50 = .ok (.ifCond .ne 10, 3) := by decide +kernel
theorem d_At_countOrder_53 : decode b_At_countOrder 53 = .ok (.aload_n 1, 1) := by decide +kernel
theorem d_At_countOrder_54 : decode b_At_countOrder 54 = .ok (.getfield 34, 3) := by decide +kernel
theorem d_At_countOrder_57 : decode b_At_countOrder 57 = .ok (.goto 14, 3) := by decide +kernel
theorem d_At_countOrder_60 : decode b_At_countOrder 60 = .ok (.aload_n 0, 1) := by decide +kernel
theorem d_At_countOrder_61 : decode b_At_countOrder 61 = .ok (.getfield 39, 3) := by decide +kernel
theorem d_At_countOrder_64 : decode b_At_countOrder 64 = .ok (.aload_n 1, 1) := by decide +kernel
theorem d_At_countOrder_65 : decode b_At_countOrder 65 = .ok (.getfield 34, 3) := by decide +kernel
theorem d_At_countOrder_68 : decode b_At_countOrder 68 = .ok (.invokestatic 48, 3) := by decide +kernel
theorem d_At_countOrder_71 : decode b_At_countOrder 71 = .ok (.putfield 39, 3) := by decide +kernel
theorem d_At_countOrder_74 : decode b_At_countOrder 74 = .ok (.aload_n 0, 1) := by decide +kernel
theorem d_At_countOrder_75 : decode b_At_countOrder 75 = .ok (.aload_n 0, 1) := by decide +kernel
theorem d_At_countOrder_76 : decode b_At_countOrder 76 = .ok (.getfield 28, 3) := by decide +kernel
theorem d_At_countOrder_79 : decode b_At_countOrder 79 = .ok (.ifCond .ne 10, 3) := by decide +kernel
theorem d_At_countOrder_82 : decode b_At_countOrder 82 = .ok (.aload_n 1, 1) := by decide +kernel
theorem d_At_countOrder_83 : decode b_At_countOrder 83 = .ok (.getfield 42, 3) := by decide +kernel
theorem d_At_countOrder_86 : decode b_At_countOrder 86 = .ok (.goto 12, 3) := by decide +kernel
theorem d_At_countOrder_89 : decode b_At_countOrder 89 = .ok (.aload_n 0, 1) := by decide +kernel
theorem d_At_countOrder_90 : decode b_At_countOrder 90 = .ok (.getfield 45, 3) := by decide +kernel
theorem d_At_countOrder_93 : decode b_At_countOrder 93 = .ok (.aload_n 1, 1) := by decide +kernel
theorem d_At_countOrder_94 : decode b_At_countOrder 94 = .ok (.getfield 42, 3) := by decide +kernel
theorem d_At_countOrder_97 : decode b_At_countOrder 97 = .ok (.ior, 1) := by decide +kernel
theorem d_At_countOrder_98 : decode b_At_countOrder 98 = .ok (.putfield 45, 3) := by decide +kernel
theorem d_At_countOrder_101 : decode b_At_countOrder 101 = .ok (.aload_n 0, 1) := by decide +kernel
theorem d_At_countOrder_102 : decode b_At_countOrder 102 = .ok (.dup, 1) := by decide +kernel
theorem d_At_countOrder_103 : decode b_At_countOrder 103 = .ok (.getfield 28, 3) := by decide +kernel
theorem d_At_countOrder_106 : decode b_At_countOrder 106 = .ok (.iconst 1, 1) := by decide +kernel
theorem d_At_countOrder_107 : decode b_At_countOrder 107 = .ok (.iadd, 1) := by decide +kernel
theorem d_At_countOrder_108 : decode b_At_countOrder 108 = .ok (.putfield 28, 3) := by decide +kernel
theorem d_At_countOrder_111 : decode b_At_countOrder 111 = .ok (.return_, 1) := by decide +kernel
theorem d_Rp_commitHere_0 : decode b_Rp_commitHere 0 = .ok (.aload_n 0, 1) := by decide +kernel
theorem d_Rp_commitHere_1 : decode b_Rp_commitHere 1 = .ok (.getfield 27, 3) := by decide +kernel
theorem d_Rp_commitHere_4 : decode b_Rp_commitHere 4 = .ok (.iload_n 1, 1) := by decide +kernel
theorem d_Rp_commitHere_5 : decode b_Rp_commitHere 5 = .ok (.aaload, 1) := by decide +kernel
theorem d_Rp_commitHere_6 : decode b_Rp_commitHere 6 = .ok (.iconst 3, 1) := by decide +kernel
theorem d_Rp_commitHere_7 : decode b_Rp_commitHere 7 = .ok (.aload_n 2, 1) := by decide +kernel
theorem d_Rp_commitHere_8 : decode b_Rp_commitHere 8 = .ok (.invokevirtual 62, 3) := by decide +kernel
theorem d_Rp_commitHere_11 : decode b_Rp_commitHere 11 = .ok (.aload_n 0, 1) := by decide +kernel
theorem d_Rp_commitHere_12 : decode b_Rp_commitHere 12 = .ok (.iconst 4, 1) := by decide +kernel
theorem d_Rp_commitHere_13 : decode b_Rp_commitHere 13 = .ok (.iload_n 1, 1) := by decide +kernel
theorem d_Rp_commitHere_14 : decode b_Rp_commitHere 14 = .ok (.iconst 0, 1) := by decide +kernel
theorem d_Rp_commitHere_15 : decode b_Rp_commitHere 15 = .ok (.aload_n 2, 1) := by decide +kernel
theorem d_Rp_commitHere_16 : decode b_Rp_commitHere 16 = .ok (.invokevirtual 84, 3) := by decide +kernel
theorem d_Rp_commitHere_19 : decode b_Rp_commitHere 19 = .ok (.return_, 1) := by decide +kernel
theorem d_At_enterPhase_0 : decode b_At_enterPhase 0 = .ok (.aload_n 0, 1) := by decide +kernel
theorem d_At_enterPhase_1 : decode b_At_enterPhase 1 = .ok (.iload_n 1, 1) := by decide +kernel
theorem d_At_enterPhase_2 : decode b_At_enterPhase 2 = .ok (.putfield 15, 3) := by decide +kernel
theorem d_At_enterPhase_5 : decode b_At_enterPhase 5 = .ok (.aload_n 0, 1) := by decide +kernel
theorem d_At_enterPhase_6 : decode b_At_enterPhase 6 = .ok (.iconst 0, 1) := by decide +kernel
theorem d_At_enterPhase_7 : decode b_At_enterPhase 7 = .ok (.putfield 28, 3) := by decide +kernel
theorem d_At_enterPhase_10 : decode b_At_enterPhase 10 = .ok (.return_, 1) := by decide +kernel
theorem d_Rp_beginAccepting_0 : decode b_Rp_beginAccepting 0 = .ok (.aload_n 0, 1) := by decide +kernel
theorem d_Rp_beginAccepting_1 : decode b_Rp_beginAccepting 1 = .ok (.getfield 27, 3) := by decide +kernel
theorem d_Rp_beginAccepting_4 : decode b_Rp_beginAccepting 4 = .ok (.iload_n 1, 1) := by decide +kernel
theorem d_Rp_beginAccepting_5 : decode b_Rp_beginAccepting 5 = .ok (.aaload, 1) := by decide +kernel
theorem d_Rp_beginAccepting_6 : decode b_Rp_beginAccepting 6 = .ok (.iconst 2, 1) := by decide +kernel
theorem d_Rp_beginAccepting_7 : decode b_Rp_beginAccepting 7 = .ok (.aload_n 3, 1) := by decide +kernel
theorem d_Rp_beginAccepting_8 : decode b_Rp_beginAccepting 8 = .ok (.aload_n 2, 1) := by decide +kernel
theorem d_Rp_beginAccepting_9 : decode b_Rp_beginAccepting 9 = .ok (.getfield 218, 3) := by decide +kernel
theorem d_Rp_beginAccepting_12 : decode b_Rp_beginAccepting 12 = .ok (.invokevirtual 142, 3) := by decide +kernel
theorem d_Rp_beginAccepting_15 : decode b_Rp_beginAccepting 15 = .ok (.aload_n 2, 1) := by decide +kernel
theorem d_Rp_beginAccepting_16 : decode b_Rp_beginAccepting 16 = .ok (.iconst 2, 1) := by decide +kernel
theorem d_Rp_beginAccepting_17 : decode b_Rp_beginAccepting 17 = .ok (.invokevirtual 219, 3) := by decide +kernel
theorem d_Rp_beginAccepting_20 : decode b_Rp_beginAccepting 20 = .ok (.aload_n 0, 1) := by decide +kernel
theorem d_Rp_beginAccepting_21 : decode b_Rp_beginAccepting 21 = .ok (.iconst 2, 1) := by decide +kernel
theorem d_Rp_beginAccepting_22 : decode b_Rp_beginAccepting 22 = .ok (.iload_n 1, 1) := by decide +kernel
theorem d_Rp_beginAccepting_23 : decode b_Rp_beginAccepting 23 = .ok (.aload_n 2, 1) := by decide +kernel
theorem d_Rp_beginAccepting_24 : decode b_Rp_beginAccepting 24 = .ok (.getfield 218, 3) := by decide +kernel
theorem d_Rp_beginAccepting_27 : decode b_Rp_beginAccepting 27 = .ok (.aload_n 3, 1) := by decide +kernel
theorem d_Rp_beginAccepting_28 : decode b_Rp_beginAccepting 28 = .ok (.invokevirtual 84, 3) := by decide +kernel
theorem d_Rp_beginAccepting_31 : decode b_Rp_beginAccepting 31 = .ok (.return_, 1) := by decide +kernel
theorem d_Rp_onPreacceptOk_0 : decode b_Rp_onPreacceptOk 0 = .ok (.aload_n 0, 1) := by decide +kernel
theorem d_Rp_onPreacceptOk_1 : decode b_Rp_onPreacceptOk 1 = .ok (.aload_n 1, 1) := by decide +kernel
theorem d_Rp_onPreacceptOk_2 : decode b_Rp_onPreacceptOk 2 = .ok (.iconst 1, 1) := by decide +kernel
theorem d_Rp_onPreacceptOk_3 : decode b_Rp_onPreacceptOk 3 = .ok (.invokevirtual 146, 3) := by decide +kernel
theorem d_Rp_onPreacceptOk_6 : decode b_Rp_onPreacceptOk 6 = .ok (.astore_n 2, 1) := by decide +kernel
theorem d_Rp_onPreacceptOk_7 : decode b_Rp_onPreacceptOk 7 = .ok (.aload_n 2, 1) := by decide +kernel
theorem d_Rp_onPreacceptOk_8 : decode b_Rp_onPreacceptOk 8 = .ok (.ifnonnull 4, 3) := by decide +kernel
theorem d_Rp_onPreacceptOk_11 : decode b_Rp_onPreacceptOk 11 = .ok (.return_, 1) := by decide +kernel
theorem d_Rp_onPreacceptOk_12 : decode b_Rp_onPreacceptOk 12 = .ok (.aload_n 2, 1) := by decide +kernel
theorem d_Rp_onPreacceptOk_13 : decode b_Rp_onPreacceptOk 13 = .ok (.aload_n 1, 1) := by decide +kernel
theorem d_Rp_onPreacceptOk_14 : decode b_Rp_onPreacceptOk 14 = .ok (.getfield 141, 3) := by decide +kernel
theorem d_Rp_onPreacceptOk_17 : decode b_Rp_onPreacceptOk 17 = .ok (.invokevirtual 150, 3) := by decide +kernel
theorem d_Rp_onPreacceptOk_20 : decode b_Rp_onPreacceptOk 20 = .ok (.aload_n 0, 1) := by decide +kernel
theorem d_Rp_onPreacceptOk_21 : decode b_Rp_onPreacceptOk 21 = .ok (.getfield 27, 3) := by decide +kernel
theorem d_Rp_onPreacceptOk_24 : decode b_Rp_onPreacceptOk 24 = .ok (.aload_n 1, 1) := by decide +kernel
theorem d_Rp_onPreacceptOk_25 : decode b_Rp_onPreacceptOk 25 = .ok (.getfield 92, 3) := by decide +kernel
theorem d_Rp_onPreacceptOk_28 : decode b_Rp_onPreacceptOk 28 = .ok (.aaload, 1) := by decide +kernel
theorem d_Rp_onPreacceptOk_29 : decode b_Rp_onPreacceptOk 29 = .ok (.getfield 102, 3) := by decide +kernel
theorem d_Rp_onPreacceptOk_32 : decode b_Rp_onPreacceptOk 32 = .ok (.getfield 154, 3) := by decide +kernel
theorem d_Rp_onPreacceptOk_35 : decode b_Rp_onPreacceptOk 35 = .ok (.astore_n 3, 1) := by decide +kernel
theorem d_Rp_onPreacceptOk_36 : decode b_Rp_onPreacceptOk 36 = .ok (.new 53, 3) := by decide +kernel
theorem d_Rp_onPreacceptOk_39 : decode b_Rp_onPreacceptOk 39 = .ok (.dup, 1) := by decide +kernel
theorem d_Rp_onPreacceptOk_40 : decode b_Rp_onPreacceptOk 40 = .ok (.aload_n 3, 1) := by decide +kernel
theorem d_Rp_onPreacceptOk_41 : decode b_Rp_onPreacceptOk 41 = .ok (.aload_n 2, 1) := by decide +kernel
theorem d_Rp_onPreacceptOk_42 : decode b_Rp_onPreacceptOk 42 = .ok (.getfield 158, 3) := by decide +kernel
theorem d_Rp_onPreacceptOk_45 : decode b_Rp_onPreacceptOk 45 = .ok (.aload_n 2, 1) := by decide +kernel
theorem d_Rp_onPreacceptOk_46 : decode b_Rp_onPreacceptOk 46 = .ok (.getfield 161, 3) := by decide +kernel
theorem d_Rp_onPreacceptOk_49 : decode b_Rp_onPreacceptOk 49 = .ok (.invokespecial 55, 3) := by decide +kernel
theorem d_Rp_onPreacceptOk_52 : decode b_Rp_onPreacceptOk 52 = .ok (.astore 4, 2) := by decide +kernel
theorem d_Rp_onPreacceptOk_54 : decode b_Rp_onPreacceptOk 54 = .ok (.aload_n 2, 1) := by decide +kernel
theorem d_Rp_onPreacceptOk_55 : decode b_Rp_onPreacceptOk 55 = .ok (.getfield 164, 3) := by decide +kernel
theorem d_Rp_onPreacceptOk_58 : decode b_Rp_onPreacceptOk 58 = .ok (.ifCond .eq 14, 3) := by decide +kernel
theorem d_Rp_onPreacceptOk_61 : decode b_Rp_onPreacceptOk 61 = .ok (.aload_n 2, 1) := by decide +kernel
theorem d_Rp_onPreacceptOk_62 : decode b_Rp_onPreacceptOk 62 = .ok (.getfield 167, 3) := by decide +kernel
theorem d_Rp_onPreacceptOk_65 : decode b_Rp_onPreacceptOk 65 = .ok (.ifCond .eq 7, 3) := by decide +kernel
theorem d_Rp_onPreacceptOk_68 : decode b_Rp_onPreacceptOk 68 = .ok (.iconst 1, 1) := by decide +kernel
theorem d_Rp_onPreacceptOk_69 : decode b_Rp_onPreacceptOk 69 = .ok (.goto 4, 3) := by decide +kernel
theorem d_Rp_onPreacceptOk_72 : decode b_Rp_onPreacceptOk 72 = .ok (.iconst 0, 1) := by decide +kernel
theorem d_Rp_onPreacceptOk_73 : decode b_Rp_onPreacceptOk 73 = .ok (.istore 5, 2) := by decide +kernel
theorem d_Rp_onPreacceptOk_75 : decode b_Rp_onPreacceptOk 75 = .ok (.iload 5, 2) := by decide +kernel
theorem d_Rp_onPreacceptOk_77 : decode b_Rp_onPreacceptOk 77 = .ok (.ifCond .eq 29, 3) := by decide +kernel
theorem d_Rp_onPreacceptOk_80 : decode b_Rp_onPreacceptOk 80 = .ok (.aload_n 2, 1) := by decide +kernel
theorem d_Rp_onPreacceptOk_81 : decode b_Rp_onPreacceptOk 81 = .ok (.getfield 170, 3) := by decide +kernel
theorem d_Rp_onPreacceptOk_84 : decode b_Rp_onPreacceptOk 84 = .ok (.aload_n 0, 1) := by decide +kernel
theorem d_Rp_onPreacceptOk_85 : decode b_Rp_onPreacceptOk 85 = .ok (.getfield 15, 3) := by decide +kernel
theorem d_Rp_onPreacceptOk_88 : decode b_Rp_onPreacceptOk 88 = .ok (.iconst 2, 1) := by decide +kernel
theorem d_Rp_onPreacceptOk_89 : decode b_Rp_onPreacceptOk 89 = .ok (.isub, 1) := by decide +kernel
theorem d_Rp_onPreacceptOk_90 : decode b_Rp_onPreacceptOk 90 = .ok (.if_icmp .ne 16, 3) := by decide +kernel
theorem d_Rp_onPreacceptOk_93 : decode b_Rp_onPreacceptOk 93 = .ok (.aload_n 0, 1) := by decide +kernel
theorem d_Rp_onPreacceptOk_94 : decode b_Rp_onPreacceptOk 94 = .ok (.aload_n 1, 1) := by decide +kernel
theorem d_Rp_onPreacceptOk_95 : decode b_Rp_onPreacceptOk 95 = .ok (.getfield 92, 3) := by decide +kernel
theorem d_Rp_onPreacceptOk_98 : decode b_Rp_onPreacceptOk 98 = .ok (.aload 4, 2) := by decide +kernel
theorem d_Rp_onPreacceptOk_100 : decode b_Rp_onPreacceptOk 100 = .ok (.invokevirtual 173, 3) := by decide +kernel
theorem d_Rp_onPreacceptOk_103 : decode b_Rp_onPreacceptOk 103 = .ok (.goto 30, 3) := by decide +kernel
theorem d_Rp_onPreacceptOk_106 : decode b_Rp_onPreacceptOk 106 = .ok (.iload 5, 2) := by decide +kernel
theorem d_Rp_onPreacceptOk_108 : decode b_Rp_onPreacceptOk 108 = .ok (.ifCond .ne 25, 3) := by decide +kernel
theorem d_Rp_onPreacceptOk_111 : decode b_Rp_onPreacceptOk 111 = .ok (.aload_n 2, 1) := by decide +kernel
theorem d_Rp_onPreacceptOk_112 : decode b_Rp_onPreacceptOk 112 = .ok (.getfield 170, 3) := by decide +kernel
theorem d_Rp_onPreacceptOk_115 : decode b_Rp_onPreacceptOk 115 = .ok (.aload_n 0, 1) := by decide +kernel
theorem d_Rp_onPreacceptOk_116 : decode b_Rp_onPreacceptOk 116 = .ok (.getfield 18, 3) := by decide +kernel
theorem d_Rp_onPreacceptOk_119 : decode b_Rp_onPreacceptOk 119 = .ok (.if_icmp .lt 14, 3) := by decide +kernel
theorem d_Rp_onPreacceptOk_122 : decode b_Rp_onPreacceptOk 122 = .ok (.aload_n 0, 1) := by decide +kernel
theorem d_Rp_onPreacceptOk_123 : decode b_Rp_onPreacceptOk 123 = .ok (.aload_n 1, 1) := by decide +kernel
theorem d_Rp_onPreacceptOk_124 : decode b_Rp_onPreacceptOk 124 = .ok (.getfield 92, 3) := by decide +kernel
theorem d_Rp_onPreacceptOk_127 : decode b_Rp_onPreacceptOk 127 = .ok (.aload_n 2, 1) := by decide +kernel
theorem d_Rp_onPreacceptOk_128 : decode b_Rp_onPreacceptOk 128 = .ok (.aload 4, 2) := by decide +kernel
theorem d_Rp_onPreacceptOk_130 : decode b_Rp_onPreacceptOk 130 = .ok (.invokevirtual 176, 3) := by decide +kernel
theorem d_Rp_onPreacceptOk_133 : decode b_Rp_onPreacceptOk 133 = .ok (.return_, 1) := by decide +kernel
theorem d_Rp_onAccept_0 : decode b_Rp_onAccept 0 = .ok (.aload_n 1, 1) := by decide +kernel
theorem d_Rp_onAccept_1 : decode b_Rp_onAccept 1 = .ok (.getfield 138, 3) := by decide +kernel
theorem d_Rp_onAccept_4 : decode b_Rp_onAccept 4 = .ok (.aload_n 2, 1) := by decide +kernel
theorem d_Rp_onAccept_5 : decode b_Rp_onAccept 5 = .ok (.getfield 50, 3) := by decide +kernel
theorem d_Rp_onAccept_8 : decode b_Rp_onAccept 8 = .ok (.if_icmp .ge 4, 3) := by decide +kernel
theorem d_Rp_onAccept_11 : decode b_Rp_onAccept 11 = .ok (.return_, 1) := by decide +kernel
theorem d_Rp_onAccept_12 : decode b_Rp_onAccept 12 = .ok (.aload_n 2, 1) := by decide +kernel
theorem d_Rp_onAccept_13 : decode b_Rp_onAccept 13 = .ok (.iconst 2, 1) := by decide +kernel
theorem d_Rp_onAccept_14 : decode b_Rp_onAccept 14 = .ok (.aload_n 1, 1) := by decide +kernel
theorem d_Rp_onAccept_15 : decode b_Rp_onAccept 15 = .ok (.getfield 141, 3) := by decide +kernel
theorem d_Rp_onAccept_18 : decode b_Rp_onAccept 18 = .ok (.aload_n 1, 1) := by decide +kernel
theorem d_Rp_onAccept_19 : decode b_Rp_onAccept 19 = .ok (.getfield 138, 3) := by decide +kernel
theorem d_Rp_onAccept_22 : decode b_Rp_onAccept 22 = .ok (.invokevirtual 142, 3) := by decide +kernel
theorem d_Rp_onAccept_25 : decode b_Rp_onAccept 25 = .ok (.aload_n 0, 1) := by decide +kernel
theorem d_Rp_onAccept_26 : decode b_Rp_onAccept 26 = .ok (.aload_n 1, 1) := by decide +kernel
theorem d_Rp_onAccept_27 : decode b_Rp_onAccept 27 = .ok (.iconst 3, 1) := by decide +kernel
theorem d_Rp_onAccept_28 : decode b_Rp_onAccept 28 = .ok (.aconst_null, 1) := by decide +kernel
theorem d_Rp_onAccept_29 : decode b_Rp_onAccept 29 = .ok (.aconst_null, 1) := by decide +kernel
theorem d_Rp_onAccept_30 : decode b_Rp_onAccept 30 = .ok (.invokevirtual 106, 3) := by decide +kernel
theorem d_Rp_onAccept_33 : decode b_Rp_onAccept 33 = .ok (.return_, 1) := by decide +kernel
theorem d_Rp_onAcceptOk_0 : decode b_Rp_onAcceptOk 0 = .ok (.aload_n 0, 1) := by decide +kernel
theorem d_Rp_onAcceptOk_1 : decode b_Rp_onAcceptOk 1 = .ok (.aload_n 1, 1) := by decide +kernel
theorem d_Rp_onAcceptOk_2 : decode b_Rp_onAcceptOk 2 = .ok (.iconst 2, 1) := by decide +kernel
theorem d_Rp_onAcceptOk_3 : decode b_Rp_onAcceptOk 3 = .ok (.invokevirtual 146, 3) := by decide +kernel
theorem d_Rp_onAcceptOk_6 : decode b_Rp_onAcceptOk 6 = .ok (.astore_n 2, 1) := by decide +kernel
theorem d_Rp_onAcceptOk_7 : decode b_Rp_onAcceptOk 7 = .ok (.aload_n 2, 1) := by decide +kernel
theorem d_Rp_onAcceptOk_8 : decode b_Rp_onAcceptOk 8 = .ok (.ifnonnull 4, 3) := by decide +kernel
theorem d_Rp_onAcceptOk_11 : decode b_Rp_onAcceptOk 11 = .ok (.return_, 1) := by decide +kernel
theorem d_Rp_onAcceptOk_12 : decode b_Rp_onAcceptOk 12 = .ok (.aload_n 2, 1) := by decide +kernel
theorem d_Rp_onAcceptOk_13 : decode b_Rp_onAcceptOk 13 = .ok (.dup, 1) := by decide +kernel
theorem d_Rp_onAcceptOk_14 : decode b_Rp_onAcceptOk 14 = .ok (.getfield 170, 3) := by decide +kernel
theorem d_Rp_onAcceptOk_17 : decode b_Rp_onAcceptOk 17 = .ok (.iconst 1, 1) := by decide +kernel
theorem d_Rp_onAcceptOk_18 : decode b_Rp_onAcceptOk 18 = .ok (.iadd, 1) := by decide +kernel
theorem d_Rp_onAcceptOk_19 : decode b_Rp_onAcceptOk 19 = .ok (.putfield 170, 3) := by decide +kernel
theorem d_Rp_onAcceptOk_22 : decode b_Rp_onAcceptOk 22 = .ok (.aload_n 2, 1) := by decide +kernel
theorem d_Rp_onAcceptOk_23 : decode b_Rp_onAcceptOk 23 = .ok (.getfield 170, 3) := by decide +kernel
theorem d_Rp_onAcceptOk_26 : decode b_Rp_onAcceptOk 26 = .ok (.aload_n 0, 1) := by decide +kernel
theorem d_Rp_onAcceptOk_27 : decode b_Rp_onAcceptOk 27 = .ok (.getfield 18, 3) := by decide +kernel
theorem d_Rp_onAcceptOk_30 : decode b_Rp_onAcceptOk 30 = .ok (.if_icmp .ne 23, 3) := by decide +kernel
theorem d_Rp_onAcceptOk_33 : decode b_Rp_onAcceptOk 33 = .ok (.aload_n 0, 1) := by decide +kernel
theorem d_Rp_onAcceptOk_34 : decode b_Rp_onAcceptOk 34 = .ok (.aload_n 1, 1) := by decide +kernel
theorem d_Rp_onAcceptOk_35 : decode b_Rp_onAcceptOk 35 = .ok (.getfield 92, 3) := by decide +kernel
theorem d_Rp_onAcceptOk_38 : decode b_Rp_onAcceptOk 38 = .ok (.aload_n 0, 1) := by decide +kernel
theorem d_Rp_onAcceptOk_39 : decode b_Rp_onAcceptOk 39 = .ok (.getfield 27, 3) := by decide +kernel
theorem d_Rp_onAcceptOk_42 : decode b_Rp_onAcceptOk 42 = .ok (.aload_n 1, 1) := by decide +kernel
theorem d_Rp_onAcceptOk_43 : decode b_Rp_onAcceptOk 43 = .ok (.getfield 92, 3) := by decide +kernel
theorem d_Rp_onAcceptOk_46 : decode b_Rp_onAcceptOk 46 = .ok (.aaload, 1) := by decide +kernel
theorem d_Rp_onAcceptOk_47 : decode b_Rp_onAcceptOk 47 = .ok (.getfield 102, 3) := by decide +kernel
theorem d_Rp_onAcceptOk_50 : decode b_Rp_onAcceptOk 50 = .ok (.invokevirtual 173, 3) := by decide +kernel
theorem d_Rp_onAcceptOk_53 : decode b_Rp_onAcceptOk 53 = .ok (.return_, 1) := by decide +kernel
theorem d_Rp_onCommit_0 : decode b_Rp_onCommit 0 = .ok (.aload_n 2, 1) := by decide +kernel
theorem d_Rp_onCommit_1 : decode b_Rp_onCommit 1 = .ok (.invokevirtual 99, 3) := by decide +kernel
theorem d_Rp_onCommit_4 : decode b_Rp_onCommit 4 = .ok (.ifCond .ne 12, 3) := by decide +kernel
theorem d_Rp_onCommit_7 : decode b_Rp_onCommit 7 = .ok (.aload_n 2, 1) := by decide +kernel
theorem d_Rp_onCommit_8 : decode b_Rp_onCommit 8 = .ok (.iconst 3, 1) := by decide +kernel
theorem d_Rp_onCommit_9 : decode b_Rp_onCommit 9 = .ok (.aload_n 1, 1) := by decide +kernel
theorem d_Rp_onCommit_10 : decode b_Rp_onCommit 10 = .ok (.getfield 141, 3) := by decide +kernel
theorem d_Rp_onCommit_13 : decode b_Rp_onCommit 13 = .ok (.invokevirtual 62, 3) := by decide +kernel
theorem d_Rp_onCommit_16 : decode b_Rp_onCommit 16 = .ok (.return_, 1) := by decide +kernel
theorem d_Rt_init_0 : decode b_Rt_init 0 = .ok (.aload_n 0, 1) := by decide +kernel
theorem d_Rt_init_1 : decode b_Rt_init 1 = .ok (.invokespecial 3, 3) := by decide +kernel
theorem d_Rt_init_4 : decode b_Rt_init 4 = .ok (.aload_n 0, 1) := by decide +kernel
theorem d_Rt_init_5 : decode b_Rt_init 5 = .ok (.iload_n 1, 1) := by decide +kernel
theorem d_Rt_init_6 : decode b_Rt_init 6 = .ok (.putfield 9, 3) := by decide +kernel
theorem d_Rt_init_9 : decode b_Rt_init 9 = .ok (.aload_n 0, 1) := by decide +kernel
theorem d_Rt_init_10 : decode b_Rt_init 10 = .ok (.aload_n 2, 1) := by decide +kernel
theorem d_Rt_init_11 : decode b_Rt_init 11 = .ok (.getfield 15, 3) := by decide +kernel
theorem d_Rt_init_14 : decode b_Rt_init 14 = .ok (.putfield 20, 3) := by decide +kernel
theorem d_Rt_init_17 : decode b_Rt_init 17 = .ok (.aload_n 0, 1) := by decide +kernel
theorem d_Rt_init_18 : decode b_Rt_init 18 = .ok (.aload_n 2, 1) := by decide +kernel
theorem d_Rt_init_19 : decode b_Rt_init 19 = .ok (.getfield 21, 3) := by decide +kernel
theorem d_Rt_init_22 : decode b_Rt_init 22 = .ok (.putfield 25, 3) := by decide +kernel
theorem d_Rt_init_25 : decode b_Rt_init 25 = .ok (.aload_n 0, 1) := by decide +kernel
theorem d_Rt_init_26 : decode b_Rt_init 26 = .ok (.aload_n 2, 1) := by decide +kernel
theorem d_Rt_init_27 : decode b_Rt_init 27 = .ok (.getfield 26, 3) := by decide +kernel
theorem d_Rt_init_30 : decode b_Rt_init 30 = .ok (.putfield 29, 3) := by decide +kernel
theorem d_Rt_init_33 : decode b_Rt_init 33 = .ok (.return_, 1) := by decide +kernel
theorem d_Rp_onPrepare_0 : decode b_Rp_onPrepare 0 = .ok (.aload_n 1, 1) := by decide +kernel
theorem d_Rp_onPrepare_1 : decode b_Rp_onPrepare 1 = .ok (.getfield 138, 3) := by decide +kernel
theorem d_Rp_onPrepare_4 : decode b_Rp_onPrepare 4 = .ok (.aload_n 2, 1) := by decide +kernel
theorem d_Rp_onPrepare_5 : decode b_Rp_onPrepare 5 = .ok (.getfield 50, 3) := by decide +kernel
theorem d_Rp_onPrepare_8 : decode b_Rp_onPrepare 8 = .ok (.if_icmp .gt 4, 3) := by decide +kernel
theorem d_Rp_onPrepare_11 : decode b_Rp_onPrepare 11 = .ok (.return_, 1) := by decide +kernel
theorem d_Rp_onPrepare_12 : decode b_Rp_onPrepare 12 = .ok (.aload_n 2, 1) := by decide +kernel
theorem d_Rp_onPrepare_13 : decode b_Rp_onPrepare 13 = .ok (.aload_n 1, 1) := by decide +kernel
theorem d_Rp_onPrepare_14 : decode b_Rp_onPrepare 14 = .ok (.getfield 138, 3) := by decide +kernel
theorem d_Rp_onPrepare_17 : decode b_Rp_onPrepare 17 = .ok (.putfield 50, 3) := by decide +kernel
theorem d_Rp_onPrepare_20 : decode b_Rp_onPrepare 20 = .ok (.aload_n 0, 1) := by decide +kernel
theorem d_Rp_onPrepare_21 : decode b_Rp_onPrepare 21 = .ok (.aload_n 1, 1) := by decide +kernel
theorem d_Rp_onPrepare_22 : decode b_Rp_onPrepare 22 = .ok (.bipush 6, 2) := by decide +kernel
theorem d_Rp_onPrepare_24 : decode b_Rp_onPrepare 24 = .ok (.aconst_null, 1) := by decide +kernel
theorem d_Rp_onPrepare_25 : decode b_Rp_onPrepare 25 = .ok (.new 180, 3) := by decide +kernel
theorem d_Rp_onPrepare_28 : decode b_Rp_onPrepare 28 = .ok (.dup, 1) := by decide +kernel
theorem d_Rp_onPrepare_29 : decode b_Rp_onPrepare 29 = .ok (.aload_n 0, 1) := by decide +kernel
theorem d_Rp_onPrepare_30 : decode b_Rp_onPrepare 30 = .ok (.getfield 9, 3) := by decide +kernel
theorem d_Rp_onPrepare_33 : decode b_Rp_onPrepare 33 = .ok (.aload_n 2, 1) := by decide +kernel
theorem d_Rp_onPrepare_34 : decode b_Rp_onPrepare 34 = .ok (.invokespecial 182, 3) := by decide +kernel
theorem d_Rp_onPrepare_37 : decode b_Rp_onPrepare 37 = .ok (.invokevirtual 106, 3) := by decide +kernel
theorem d_Rp_onPrepare_40 : decode b_Rp_onPrepare 40 = .ok (.return_, 1) := by decide +kernel
theorem d_At_countReport_0 : decode b_At_countReport 0 = .ok (.aload_n 0, 1) := by decide +kernel
theorem d_At_countReport_1 : decode b_At_countReport 1 = .ok (.getfield 28, 3) := by decide +kernel
theorem d_At_countReport_4 : decode b_At_countReport 4 = .ok (.aload_n 0, 1) := by decide +kernel
theorem d_At_countReport_5 : decode b_At_countReport 5 = .ok (.getfield 24, 3) := by decide +kernel
theorem d_At_countReport_8 : decode b_At_countReport 8 = .ok (.arraylength, 1) := by decide +kernel
theorem d_At_countReport_9 : decode b_At_countReport 9 = .ok (.if_icmp .ge 23, 3) := by decide +kernel
theorem d_At_countReport_12 : decode b_At_countReport 12 = .ok (.aload_n 0, 1) := by decide +kernel
theorem d_At_countReport_13 : decode b_At_countReport 13 = .ok (.getfield 24, 3) := by decide +kernel
theorem d_At_countReport_16 : decode b_At_countReport 16 = .ok (.aload_n 0, 1) := by decide +kernel
theorem d_At_countReport_17 : decode b_At_countReport 17 = .ok (.getfield 28, 3) := by decide +kernel
theorem d_At_countReport_20 : decode b_At_countReport 20 = .ok (.aload_n 1, 1) := by decide +kernel
theorem d_At_countReport_21 : decode b_At_countReport 21 = .ok (.aastore, 1) := by decide +kernel
theorem d_At_countReport_22 : decode b_At_countReport 22 = .ok (.aload_n 0, 1) := by decide +kernel
theorem d_At_countReport_23 : decode b_At_countReport 23 = .ok (.dup, 1) := by decide +kernel
theorem d_At_countReport_24 : decode b_At_countReport 24 = .ok (.getfield 28, 3) := by decide +kernel
theorem d_At_countReport_27 : decode b_At_countReport 27 = .ok (.iconst 1, 1) := by decide +kernel
theorem d_At_countReport_28 : decode b_At_countReport 28 = .ok (.iadd, 1) := by decide +kernel
theorem d_At_countReport_29 : decode b_At_countReport 29 = .ok (.putfield 28, 3) := by decide +kernel
theorem d_At_countReport_32 : decode b_At_countReport 32 = .ok (.return_, 1) := by decide +kernel
theorem d_At_lastAccepted_0 : decode b_At_lastAccepted 0 = .ok (.aconst_null, 1) := by decide +kernel
theorem d_At_lastAccepted_1 : decode b_At_lastAccepted 1 = .ok (.astore_n 1, 1) := by decide +kernel
theorem d_At_lastAccepted_2 : decode b_At_lastAccepted 2 = .ok (.iconst 0, 1) := by decide +kernel
theorem d_At_lastAccepted_3 : decode b_At_lastAccepted 3 = .ok (.istore_n 2, 1) := by decide +kernel
theorem d_At_lastAccepted_4 : decode b_At_lastAccepted 4 = .ok (.iload_n 2, 1) := by decide +kernel
theorem d_At_lastAccepted_5 : decode b_At_lastAccepted 5 = .ok (.aload_n 0, 1) := by decide +kernel
theorem d_At_lastAccepted_6 : decode b_At_lastAccepted 6 = .ok (.getfield 28, 3) := by decide +kernel
theorem d_At_lastAccepted_9 : decode b_At_lastAccepted 9 = .ok (.if_icmp .ge 41, 3) := by decide +kernel
theorem d_At_lastAccepted_12 : decode b_At_lastAccepted 12 = .ok (.aload_n 0, 1) := by decide +kernel
theorem d_At_lastAccepted_13 : decode b_At_lastAccepted 13 = .ok (.getfield 24, 3) := by decide +kernel
theorem d_At_lastAccepted_16 : decode b_At_lastAccepted 16 = .ok (.iload_n 2, 1) := by decide +kernel
theorem d_At_lastAccepted_17 : decode b_At_lastAccepted 17 = .ok (.aaload, 1) := by decide +kernel
theorem d_At_lastAccepted_18 : decode b_At_lastAccepted 18 = .ok (.astore_n 3, 1) := by decide +kernel
theorem d_At_lastAccepted_19 : decode b_At_lastAccepted 19 = .ok (.aload_n 3, 1) := by decide +kernel
theorem d_At_lastAccepted_20 : decode b_At_lastAccepted 20 = .ok (.getfield 54, 3) := by decide +kernel
theorem d_At_lastAccepted_23 : decode b_At_lastAccepted 23 = .ok (.iconst 2, 1) := by decide +kernel
theorem d_At_lastAccepted_24 : decode b_At_lastAccepted 24 = .ok (.if_icmp .ne 20, 3) := by decide +kernel
theorem d_At_lastAccepted_27 : decode b_At_lastAccepted 27 = .ok (.aload_n 1, 1) := by decide +kernel
theorem d_At_lastAccepted_28 : decode b_At_lastAccepted 28 = .ok (.ifnull 14, 3) := by decide +kernel
theorem d_At_lastAccepted_31 : decode b_At_lastAccepted 31 = .ok (.aload_n 3, 1) := by decide +kernel
theorem d_At_lastAccepted_32 : decode b_At_lastAccepted 32 = .ok (.getfield 57, 3) := by decide +kernel
theorem d_At_lastAccepted_35 : decode b_At_lastAccepted 35 = .ok (.aload_n 1, 1) := by decide +kernel
theorem d_At_lastAccepted_36 : decode b_At_lastAccepted 36 = .ok (.getfield 57, 3) := by decide +kernel
theorem d_At_lastAccepted_39 : decode b_At_lastAccepted 39 = .ok (.if_icmp .le 5, 3) := by decide +kernel
theorem d_At_lastAccepted_42 : decode b_At_lastAccepted 42 = .ok (.aload_n 3, 1) := by decide +kernel
theorem d_At_lastAccepted_43 : decode b_At_lastAccepted 43 = .ok (.astore_n 1, 1) := by decide +kernel
theorem d_At_lastAccepted_44 : decode b_At_lastAccepted 44 = .ok (.iinc 2 1, 3) := by decide +kernel
theorem d_At_lastAccepted_47 : decode b_At_lastAccepted 47 = .ok (.goto (-43), 3) := by decide +kernel
theorem d_At_lastAccepted_50 : decode b_At_lastAccepted 50 = .ok (.aload_n 1, 1) := by decide +kernel
theorem d_At_lastAccepted_51 : decode b_At_lastAccepted 51 = .ok (.areturn, 1) := by decide +kernel
theorem d_Rt_isFastVote_0 : decode b_Rt_isFastVote 0 = .ok (.aload_n 0, 1) := by decide +kernel
theorem d_Rt_isFastVote_1 : decode b_Rt_isFastVote 1 = .ok (.getfield 20, 3) := by decide +kernel
theorem d_Rt_isFastVote_4 : decode b_Rt_isFastVote 4 = .ok (.iconst 1, 1) := by decide +kernel
theorem d_Rt_isFastVote_5 : decode b_Rt_isFastVote 5 = .ok (.if_icmp .ne 22, 3) := by decide +kernel
theorem d_Rt_isFastVote_8 : decode b_Rt_isFastVote 8 = .ok (.aload_n 0, 1) := by decide +kernel
theorem d_Rt_isFastVote_9 : decode b_Rt_isFastVote 9 = .ok (.getfield 29, 3) := by decide +kernel
theorem d_Rt_isFastVote_12 : decode b_Rt_isFastVote 12 = .ok (.ifCond .ne 15, 3) := by decide +kernel
theorem d_Rt_isFastVote_15 : decode b_Rt_isFastVote 15 = .ok (.aload_n 0, 1) := by decide +kernel
theorem d_Rt_isFastVote_16 : decode b_Rt_isFastVote 16 = .ok (.getfield 9, 3) := by decide +kernel
theorem d_Rt_isFastVote_19 : decode b_Rt_isFastVote 19 = .ok (.iload_n 1, 1) := by decide +kernel
theorem d_Rt_isFastVote_20 : decode b_Rt_isFastVote 20 = .ok (.if_icmp .eq 7, 3) := by decide +kernel
theorem d_Rt_isFastVote_23 : decode b_Rt_isFastVote 23 = .ok (.iconst 1, 1) := by decide +kernel
theorem d_Rt_isFastVote_24 : decode b_Rt_isFastVote 24 = .ok (.goto 4, 3) := by decide +kernel
theorem d_Rt_isFastVote_27 : decode b_Rt_isFastVote 27 = .ok (.iconst 0, 1) := by decide +kernel
theorem d_Rt_isFastVote_28 : decode b_Rt_isFastVote 28 = .ok (.ireturn, 1) := by decide +kernel
theorem d_Or_agreesWith_0 : decode b_Or_agreesWith 0 = .ok (.aload_n 0, 1) := by decide +kernel
theorem d_Or_agreesWith_1 : decode b_Or_agreesWith 1 = .ok (.getfield 13, 3) := by decide +kernel
theorem d_Or_agreesWith_4 : decode b_Or_agreesWith 4 = .ok (.aload_n 1, 1) := by decide +kernel
theorem d_Or_agreesWith_5 : decode b_Or_agreesWith 5 = .ok (.getfield 13, 3) := by decide +kernel
theorem d_Or_agreesWith_8 : decode b_Or_agreesWith 8 = .ok (.if_icmp .ne 18, 3) := by decide +kernel
theorem d_Or_agreesWith_11 : decode b_Or_agreesWith 11 = .ok (.aload_n 0, 1) := by decide +kernel
theorem d_Or_agreesWith_12 : decode b_Or_agreesWith 12 = .ok (.getfield 17, 3) := by decide +kernel
theorem d_Or_agreesWith_15 : decode b_Or_agreesWith 15 = .ok (.aload_n 1, 1) := by decide +kernel
theorem d_Or_agreesWith_16 : decode b_Or_agreesWith 16 = .ok (.getfield 17, 3) := by decide +kernel
theorem d_Or_agreesWith_19 : decode b_Or_agreesWith 19 = .ok (.if_icmp .ne 7, 3) := by decide +kernel
theorem d_Or_agreesWith_22 : decode b_Or_agreesWith 22 = .ok (.iconst 1, 1) := by decide +kernel
theorem d_Or_agreesWith_23 : decode b_Or_agreesWith 23 = .ok (.goto 4, 3) := by decide +kernel
theorem d_Or_agreesWith_26 : decode b_Or_agreesWith 26 = .ok (.iconst 0, 1) := by decide +kernel
theorem d_Or_agreesWith_27 : decode b_Or_agreesWith 27 = .ok (.ireturn, 1) := by decide +kernel
theorem d_At_countSharers_0 : decode b_At_countSharers 0 = .ok (.iconst 0, 1) := by decide +kernel
theorem d_At_countSharers_1 : decode b_At_countSharers 1 = .ok (.istore_n 3, 1) := by decide +kernel
theorem d_At_countSharers_2 : decode b_At_countSharers 2 = .ok (.iconst 0, 1) := by decide +kernel
theorem d_At_countSharers_3 : decode b_At_countSharers 3 = .ok (.istore 4, 2) := by decide +kernel
theorem d_At_countSharers_5 : decode b_At_countSharers 5 = .ok (.iload 4, 2) := by decide +kernel
theorem d_At_countSharers_7 : decode b_At_countSharers 7 = .ok (.aload_n 0, 1) := by decide +kernel
theorem d_At_countSharers_8 : decode b_At_countSharers 8 = .ok (.getfield 28, 3) := by decide +kernel
theorem d_At_countSharers_11 : decode b_At_countSharers 11 = .ok (.if_icmp .ge 43, 3) := by decide +kernel
theorem d_At_countSharers_14 : decode b_At_countSharers 14 = .ok (.aload_n 0, 1) := by decide +kernel
theorem d_At_countSharers_15 : decode b_At_countSharers 15 = .ok (.getfield 24, 3) := by decide +kernel
theorem d_At_countSharers_18 : decode b_At_countSharers 18 = .ok (.iload 4, 2) := by decide +kernel
theorem d_At_countSharers_20 : decode b_At_countSharers 20 = .ok (.aaload, 1) := by decide +kernel
theorem d_At_countSharers_21 : decode b_At_countSharers 21 = .ok (.iload_n 2, 1) := by decide +kernel
theorem d_At_countSharers_22 : decode b_At_countSharers 22 = .ok (.invokevirtual 60, 3) := by decide +kernel
theorem d_At_countSharers_25 : decode b_At_countSharers 25 = .ok (.ifCond .eq 23, 3) := by decide +kernel
theorem d_At_countSharers_28 : decode b_At_countSharers 28 = .ok (.aload_n 0, 1) := by decide +kernel
theorem d_At_countSharers_29 : decode b_At_countSharers 29 = .ok (.getfield 24, 3) := by decide +kernel
theorem d_At_countSharers_32 : decode b_At_countSharers 32 = .ok (.iload 4, 2) := by decide +kernel
theorem d_At_countSharers_34 : decode b_At_countSharers 34 = .ok (.aaload, 1) := by decide +kernel
theorem d_At_countSharers_35 : decode b_At_countSharers 35 = .ok (.getfield 64, 3) := by decide +kernel
theorem d_At_countSharers_38 : decode b_At_countSharers 38 = .ok (.aload_n 1, 1) := by decide +kernel
theorem d_At_countSharers_39 : decode b_At_countSharers 39 = .ok (.invokevirtual 72, 3) := by decide +kernel
theorem d_At_countSharers_42 : decode b_At_countSharers 42 = .ok (.ifCond .eq 6, 3) := by decide +kernel
theorem d_At_countSharers_45 : decode b_At_countSharers 45 = .ok (.iinc 3 1, 3) := by decide +kernel
theorem d_At_countSharers_48 : decode b_At_countSharers 48 = .ok (.iinc 4 1, 3) := by decide +kernel
theorem d_At_countSharers_51 : decode b_At_countSharers 51 = .ok (.goto (-46), 3) := by decide +kernel
theorem d_At_countSharers_54 : decode b_At_countSharers 54 = .ok (.iload_n 3, 1) := by decide +kernel
theorem d_At_countSharers_55 : decode b_At_countSharers 55 = .ok (.ireturn, 1) := by decide +kernel
theorem d_At_sharedFastVote_0 : decode b_At_sharedFastVote 0 = .ok (.iconst 0, 1) := by decide +kernel
theorem d_At_sharedFastVote_1 : decode b_At_sharedFastVote 1 = .ok (.istore_n 3, 1) := by decide +kernel
theorem d_At_sharedFastVote_2 : decode b_At_sharedFastVote 2 = .ok (.iload_n 3, 1) := by decide +kernel
theorem d_At_sharedFastVote_3 : decode b_At_sharedFastVote 3 = .ok (.aload_n 0, 1) := by decide +kernel
theorem d_At_sharedFastVote_4 : decode b_At_sharedFastVote 4 = .ok (.getfield 28, 3) := by decide +kernel
theorem d_At_sharedFastVote_7 : decode b_At_sharedFastVote 7 = .ok (.if_icmp .ge 47, 3) := by decide +kernel
theorem d_At_sharedFastVote_10 : decode b_At_sharedFastVote 10 = .ok (.aload_n 0, 1) := by decide +kernel
theorem d_At_sharedFastVote_11 : decode b_At_sharedFastVote 11 = .ok (.getfield 24, 3) := by decide +kernel
theorem d_At_sharedFastVote_14 : decode b_At_sharedFastVote 14 = .ok (.iload_n 3, 1) := by decide +kernel
theorem d_At_sharedFastVote_15 : decode b_At_sharedFastVote 15 = .ok (.aaload, 1) := by decide +kernel
theorem d_At_sharedFastVote_16 : decode b_At_sharedFastVote 16 = .ok (.iload_n 1, 1) := by decide +kernel
theorem d_At_sharedFastVote_17 : decode b_At_sharedFastVote 17 = .ok (.invokevirtual 60, 3) := by decide +kernel
theorem d_At_sharedFastVote_20 : decode b_At_sharedFastVote 20 = .ok (.ifCond .eq 28, 3) := by decide +kernel
theorem d_At_sharedFastVote_23 : decode b_At_sharedFastVote 23 = .ok (.aload_n 0, 1) := by decide +kernel
theorem d_At_sharedFastVote_24 : decode b_At_sharedFastVote 24 = .ok (.aload_n 0, 1) := by decide +kernel
theorem d_At_sharedFastVote_25 : decode b_At_sharedFastVote 25 = .ok (.getfield 24, 3) := by decide +kernel
theorem d_At_sharedFastVote_28 : decode b_At_sharedFastVote 28 = .ok (.iload_n 3, 1) := by decide +kernel
theorem d_At_sharedFastVote_29 : decode b_At_sharedFastVote 29 = .ok (.aaload, 1) := by decide +kernel
theorem d_At_sharedFastVote_30 : decode b_At_sharedFastVote 30 = .ok (.getfield 64, 3) := by decide +kernel
theorem d_At_sharedFastVote_33 : decode b_At_sharedFastVote 33 = .ok (.iload_n 1, 1) := by decide +kernel
theorem d_At_sharedFastVote_34 : decode b_At_sharedFastVote 34 = .ok (.invokevirtual 68, 3) := by decide +kernel
theorem d_At_sharedFastVote_37 : decode b_At_sharedFastVote 37 = .ok (.iload_n 2, 1) := by decide +kernel
theorem d_At_sharedFastVote_38 : decode b_At_sharedFastVote 38 = .ok (.if_icmp .lt 10, 3) := by decide +kernel
theorem d_At_sharedFastVote_41 : decode b_At_sharedFastVote 41 = .ok (.aload_n 0, 1) := by decide +kernel
theorem d_At_sharedFastVote_42 : decode b_At_sharedFastVote 42 = .ok (.getfield 24, 3) := by decide +kernel
theorem d_At_sharedFastVote_45 : decode b_At_sharedFastVote 45 = .ok (.iload_n 3, 1) := by decide +kernel
theorem d_At_sharedFastVote_46 : decode b_At_sharedFastVote 46 = .ok (.aaload, 1) := by decide +kernel
theorem d_At_sharedFastVote_47 : decode b_At_sharedFastVote 47 = .ok (.areturn, 1) := by decide +kernel
theorem d_At_sharedFastVote_48 : decode b_At_sharedFastVote 48 = .ok (.iinc 3 1, 3) := by decide +kernel
theorem d_At_sharedFastVote_51 : decode b_At_sharedFastVote 51 = .ok (.goto (-49), 3) := by decide +kernel
theorem d_At_sharedFastVote_54 : decode b_At_sharedFastVote 54 = .ok (.aconst_null, 1) := by decide +kernel
theorem d_At_sharedFastVote_55 : decode b_At_sharedFastVote 55 = .ok (.areturn, 1) := by decide +kernel
theorem d_At_firstPreaccepted_0 : decode b_At_firstPreaccepted 0 = .ok (.iconst 0, 1) := by decide +kernel
theorem d_At_firstPreaccepted_1 : decode b_At_firstPreaccepted 1 = .ok (.istore_n 1, 1) := by decide +kernel
theorem d_At_firstPreaccepted_2 : decode b_At_firstPreaccepted 2 = .ok (.iload_n 1, 1) := by decide +kernel
theorem d_At_firstPreaccepted_3 : decode b_At_firstPreaccepted 3 = .ok (.aload_n 0, 1) := by decide +kernel
theorem d_At_firstPreaccepted_4 : decode b_At_firstPreaccepted 4 = .ok (.getfield 28, 3) := by decide +kernel
theorem d_At_firstPreaccepted_7 : decode b_At_firstPreaccepted 7 = .ok (.if_icmp .ge 29, 3) := by decide +kernel
theorem d_At_firstPreaccepted_10 : decode b_At_firstPreaccepted 10 = .ok (.aload_n 0, 1) := by decide +kernel
theorem d_At_firstPreaccepted_11 : decode b_At_firstPreaccepted 11 = .ok (.getfield 24, 3) := by decide +kernel
theorem d_At_firstPreaccepted_14 : decode b_At_firstPreaccepted 14 = .ok (.iload_n 1, 1) := by decide +kernel
theorem d_At_firstPreaccepted_15 : decode b_At_firstPreaccepted 15 = .ok (.aaload, 1) := by decide +kernel
theorem d_At_firstPreaccepted_16 : decode b_At_firstPreaccepted 16 = .ok (.getfield 54, 3) := by decide +kernel
theorem d_At_firstPreaccepted_19 : decode b_At_firstPreaccepted 19 = .ok (.iconst 1, 1) := by decide +kernel
theorem d_At_firstPreaccepted_20 : decode b_At_firstPreaccepted 20 = .ok (.if_icmp .ne 10, 3) := by decide +kernel
theorem d_At_firstPreaccepted_23 : decode b_At_firstPreaccepted 23 = .ok (.aload_n 0, 1) := by decide +kernel
theorem d_At_firstPreaccepted_24 : decode b_At_firstPreaccepted 24 = .ok (.getfield 24, 3) := by decide +kernel
theorem d_At_firstPreaccepted_27 : decode b_At_firstPreaccepted 27 = .ok (.iload_n 1, 1) := by decide +kernel
theorem d_At_firstPreaccepted_28 : decode b_At_firstPreaccepted 28 = .ok (.aaload, 1) := by decide +kernel
theorem d_At_firstPreaccepted_29 : decode b_At_firstPreaccepted 29 = .ok (.areturn, 1) := by decide +kernel
theorem d_At_firstPreaccepted_30 : decode b_At_firstPreaccepted 30 = .ok (.iinc 1 1, 3) := by decide +kernel
theorem d_At_firstPreaccepted_33 : decode b_At_firstPreaccepted 33 = .ok (.goto (-31), 3) := by decide +kernel
theorem d_At_firstPreaccepted_36 : decode b_At_firstPreaccepted 36 = .ok (.aconst_null, 1) := by decide +kernel
theorem d_At_firstPreaccepted_37 : decode b_At_firstPreaccepted 37 = .ok (.areturn, 1) := by decide +kernel
theorem d_Rp_preacceptAgain_0 : decode b_Rp_preacceptAgain 0 = .ok (.aload_n 0, 1) := by decide +kernel
theorem d_Rp_preacceptAgain_1 : decode b_Rp_preacceptAgain 1 = .ok (.iload_n 1, 1) := by decide +kernel
theorem d_Rp_preacceptAgain_2 : decode b_Rp_preacceptAgain 2 = .ok (.new 53, 3) := by decide +kernel
theorem d_Rp_preacceptAgain_5 : decode b_Rp_preacceptAgain 5 = .ok (.dup, 1) := by decide +kernel
theorem d_Rp_preacceptAgain_6 : decode b_Rp_preacceptAgain 6 = .ok (.aload_n 3, 1) := by decide +kernel
theorem d_Rp_preacceptAgain_7 : decode b_Rp_preacceptAgain 7 = .ok (.iconst 1, 1) := by decide +kernel
theorem d_Rp_preacceptAgain_8 : decode b_Rp_preacceptAgain 8 = .ok (.iconst 0, 1) := by decide +kernel
theorem d_Rp_preacceptAgain_9 : decode b_Rp_preacceptAgain 9 = .ok (.invokespecial 55, 3) := by decide +kernel
theorem d_Rp_preacceptAgain_12 : decode b_Rp_preacceptAgain 12 = .ok (.invokevirtual 58, 3) := by decide +kernel
theorem d_Rp_preacceptAgain_15 : decode b_Rp_preacceptAgain 15 = .ok (.astore 4, 2) := by decide +kernel
theorem d_Rp_preacceptAgain_17 : decode b_Rp_preacceptAgain 17 = .ok (.aload_n 0, 1) := by decide +kernel
theorem d_Rp_preacceptAgain_18 : decode b_Rp_preacceptAgain 18 = .ok (.getfield 27, 3) := by decide +kernel
theorem d_Rp_preacceptAgain_21 : decode b_Rp_preacceptAgain 21 = .ok (.iload_n 1, 1) := by decide +kernel
theorem d_Rp_preacceptAgain_22 : decode b_Rp_preacceptAgain 22 = .ok (.aaload, 1) := by decide +kernel
theorem d_Rp_preacceptAgain_23 : decode b_Rp_preacceptAgain 23 = .ok (.iconst 1, 1) := by decide +kernel
theorem d_Rp_preacceptAgain_24 : decode b_Rp_preacceptAgain 24 = .ok (.aload 4, 2) := by decide +kernel
theorem d_Rp_preacceptAgain_26 : decode b_Rp_preacceptAgain 26 = .ok (.aload_n 2, 1) := by decide +kernel
theorem d_Rp_preacceptAgain_27 : decode b_Rp_preacceptAgain 27 = .ok (.getfield 218, 3) := by decide +kernel
theorem d_Rp_preacceptAgain_30 : decode b_Rp_preacceptAgain 30 = .ok (.invokevirtual 142, 3) := by decide +kernel
theorem d_Rp_preacceptAgain_33 : decode b_Rp_preacceptAgain 33 = .ok (.aload_n 2, 1) := by decide +kernel
theorem d_Rp_preacceptAgain_34 : decode b_Rp_preacceptAgain 34 = .ok (.iconst 1, 1) := by decide +kernel
theorem d_Rp_preacceptAgain_35 : decode b_Rp_preacceptAgain 35 = .ok (.invokevirtual 219, 3) := by decide +kernel
theorem d_Rp_preacceptAgain_38 : decode b_Rp_preacceptAgain 38 = .ok (.aload_n 0, 1) := by decide +kernel
theorem d_Rp_preacceptAgain_39 : decode b_Rp_preacceptAgain 39 = .ok (.iconst 0, 1) := by decide +kernel
theorem d_Rp_preacceptAgain_40 : decode b_Rp_preacceptAgain 40 = .ok (.iload_n 1, 1) := by decide +kernel
theorem d_Rp_preacceptAgain_41 : decode b_Rp_preacceptAgain 41 = .ok (.aload_n 2, 1) := by decide +kernel
theorem d_Rp_preacceptAgain_42 : decode b_Rp_preacceptAgain 42 = .ok (.getfield 218, 3) := by decide +kernel
theorem d_Rp_preacceptAgain_45 : decode b_Rp_preacceptAgain 45 = .ok (.aload 4, 2) := by decide +kernel
theorem d_Rp_preacceptAgain_47 : decode b_Rp_preacceptAgain 47 = .ok (.invokevirtual 84, 3) := by decide +kernel
theorem d_Rp_preacceptAgain_50 : decode b_Rp_preacceptAgain 50 = .ok (.return_, 1) := by decide +kernel
theorem d_Rp_finishOpen_0 : decode b_Rp_finishOpen 0 = .ok (.aload_n 2, 1) := by decide +kernel
theorem d_Rp_finishOpen_1 : decode b_Rp_finishOpen 1 = .ok (.invokevirtual 197, 3) := by decide +kernel
theorem d_Rp_finishOpen_4 : decode b_Rp_finishOpen 4 = .ok (.astore_n 3, 1) := by decide +kernel
theorem d_Rp_finishOpen_5 : decode b_Rp_finishOpen 5 = .ok (.aload_n 2, 1) := by decide +kernel
theorem d_Rp_finishOpen_6 : decode b_Rp_finishOpen 6 = .ok (.iload_n 1, 1) := by decide +kernel
theorem d_Rp_finishOpen_7 : decode b_Rp_finishOpen 7 = .ok (.bipush 6, 2) := by decide +kernel
theorem d_Rp_finishOpen_9 : decode b_Rp_finishOpen 9 = .ok (.idiv, 1) := by decide +kernel
theorem d_Rp_finishOpen_10 : decode b_Rp_finishOpen 10 = .ok (.aload_n 0, 1) := by decide +kernel
theorem d_Rp_finishOpen_11 : decode b_Rp_finishOpen 11 = .ok (.getfield 18, 3) := by decide +kernel
theorem d_Rp_finishOpen_14 : decode b_Rp_finishOpen 14 = .ok (.invokevirtual 201, 3) := by decide +kernel
theorem d_Rp_finishOpen_17 : decode b_Rp_finishOpen 17 = .ok (.astore 4, 2) := by decide +kernel
theorem d_Rp_finishOpen_19 : decode b_Rp_finishOpen 19 = .ok (.aload_n 2, 1) := by decide +kernel
theorem d_Rp_finishOpen_20 : decode b_Rp_finishOpen 20 = .ok (.invokevirtual 205, 3) := by decide +kernel
theorem d_Rp_finishOpen_23 : decode b_Rp_finishOpen 23 = .ok (.astore 5, 2) := by decide +kernel
theorem d_Rp_finishOpen_25 : decode b_Rp_finishOpen 25 = .ok (.aload_n 3, 1) := by decide +kernel
theorem d_Rp_finishOpen_26 : decode b_Rp_finishOpen 26 = .ok (.ifnull 16, 3) := by decide +kernel
theorem d_Rp_finishOpen_29 : decode b_Rp_finishOpen 29 = .ok (.aload_n 0, 1) := by decide +kernel
theorem d_Rp_finishOpen_30 : decode b_Rp_finishOpen 30 = .ok (.iload_n 1, 1) := by decide +kernel
theorem d_Rp_finishOpen_31 : decode b_Rp_finishOpen 31 = .ok (.aload_n 2, 1) := by decide +kernel
theorem d_Rp_finishOpen_32 : decode b_Rp_finishOpen 32 = .ok (.aload_n 3, 1) := by decide +kernel
theorem d_Rp_finishOpen_33 : decode b_Rp_finishOpen 33 = .ok (.getfield 208, 3) := by decide +kernel
theorem d_Rp_finishOpen_36 : decode b_Rp_finishOpen 36 = .ok (.invokevirtual 176, 3) := by decide +kernel
theorem d_Rp_finishOpen_39 : decode b_Rp_finishOpen 39 = .ok (.goto 69, 3) := by decide +kernel
theorem d_Rp_finishOpen_42 : decode b_Rp_finishOpen 42 = .ok (.aload 4, 2) := by decide +kernel
theorem d_Rp_finishOpen_44 : decode b_Rp_finishOpen 44 = .ok (.ifnull 17, 3) := by decide +kernel
theorem d_Rp_finishOpen_47 : decode b_Rp_finishOpen 47 = .ok (.aload_n 0, 1) := by decide +kernel
theorem d_Rp_finishOpen_48 : decode b_Rp_finishOpen 48 = .ok (.iload_n 1, 1) := by decide +kernel
theorem d_Rp_finishOpen_49 : decode b_Rp_finishOpen 49 = .ok (.aload_n 2, 1) := by decide +kernel
theorem d_Rp_finishOpen_50 : decode b_Rp_finishOpen 50 = .ok (.aload 4, 2) := by decide +kernel
theorem d_Rp_finishOpen_52 : decode b_Rp_finishOpen 52 = .ok (.getfield 208, 3) := by decide +kernel
theorem d_Rp_finishOpen_55 : decode b_Rp_finishOpen 55 = .ok (.invokevirtual 176, 3) := by decide +kernel
theorem d_Rp_finishOpen_58 : decode b_Rp_finishOpen 58 = .ok (.goto 50, 3) := by decide +kernel
theorem d_Rp_finishOpen_61 : decode b_Rp_finishOpen 61 = .ok (.aload 5, 2) := by decide +kernel
theorem d_Rp_finishOpen_63 : decode b_Rp_finishOpen 63 = .ok (.ifnull 20, 3) := by decide +kernel
theorem d_Rp_finishOpen_66 : decode b_Rp_finishOpen 66 = .ok (.aload_n 0, 1) := by decide +kernel
theorem d_Rp_finishOpen_67 : decode b_Rp_finishOpen 67 = .ok (.iload_n 1, 1) := by decide +kernel
theorem d_Rp_finishOpen_68 : decode b_Rp_finishOpen 68 = .ok (.aload_n 2, 1) := by decide +kernel
theorem d_Rp_finishOpen_69 : decode b_Rp_finishOpen 69 = .ok (.aload 5, 2) := by decide +kernel
theorem d_Rp_finishOpen_71 : decode b_Rp_finishOpen 71 = .ok (.getfield 208, 3) := by decide +kernel
theorem d_Rp_finishOpen_74 : decode b_Rp_finishOpen 74 = .ok (.getfield 154, 3) := by decide +kernel
theorem d_Rp_finishOpen_77 : decode b_Rp_finishOpen 77 = .ok (.invokevirtual 209, 3) := by decide +kernel
theorem d_Rp_finishOpen_80 : decode b_Rp_finishOpen 80 = .ok (.goto 28, 3) := by decide +kernel
theorem d_Rp_finishOpen_83 : decode b_Rp_finishOpen 83 = .ok (.aload_n 0, 1) := by decide +kernel
theorem d_Rp_finishOpen_84 : decode b_Rp_finishOpen 84 = .ok (.iload_n 1, 1) := by decide +kernel
theorem d_Rp_finishOpen_85 : decode b_Rp_finishOpen 85 = .ok (.aload_n 2, 1) := by decide +kernel
theorem d_Rp_finishOpen_86 : decode b_Rp_finishOpen 86 = .ok (.new 53, 3) := by decide +kernel
theorem d_Rp_finishOpen_89 : decode b_Rp_finishOpen 89 = .ok (.dup, 1) := by decide +kernel
theorem d_Rp_finishOpen_90 : decode b_Rp_finishOpen 90 = .ok (.new 213, 3) := by decide +kernel
theorem d_Rp_finishOpen_93 : decode b_Rp_finishOpen 93 = .ok (.dup, 1) := by decide +kernel
theorem d_Rp_finishOpen_94 : decode b_Rp_finishOpen 94 = .ok (.iconst 2, 1) := by decide +kernel
theorem d_Rp_finishOpen_95 : decode b_Rp_finishOpen 95 = .ok (.iconst 0, 1) := by decide +kernel
theorem d_Rp_finishOpen_96 : decode b_Rp_finishOpen 96 = .ok (.iconst 0, 1) := by decide +kernel
theorem d_Rp_finishOpen_97 : decode b_Rp_finishOpen 97 = .ok (.invokespecial 215, 3) := by decide +kernel
theorem d_Rp_finishOpen_100 : decode b_Rp_finishOpen 100 = .ok (.iconst 0, 1) := by decide +kernel
theorem d_Rp_finishOpen_101 : decode b_Rp_finishOpen 101 = .ok (.iconst 0, 1) := by decide +kernel
theorem d_Rp_finishOpen_102 : decode b_Rp_finishOpen 102 = .ok (.invokespecial 55, 3) := by decide +kernel
theorem d_Rp_finishOpen_105 : decode b_Rp_finishOpen 105 = .ok (.invokevirtual 176, 3) := by decide +kernel
theorem d_Rp_finishOpen_108 : decode b_Rp_finishOpen 108 = .ok (.return_, 1) := by decide +kernel
theorem d_Rp_onPromise_0 : decode b_Rp_onPromise 0 = .ok (.aload_n 0, 1) := by decide +kernel
theorem d_Rp_onPromise_1 : decode b_Rp_onPromise 1 = .ok (.aload_n 1, 1) := by decide +kernel
theorem d_Rp_onPromise_2 : decode b_Rp_onPromise 2 = .ok (.iconst 0, 1) := by decide +kernel
theorem d_Rp_onPromise_3 : decode b_Rp_onPromise 3 = .ok (.invokevirtual 146, 3) := by decide +kernel
theorem d_Rp_onPromise_6 : decode b_Rp_onPromise 6 = .ok (.astore_n 3, 1) := by decide +kernel
theorem d_Rp_onPromise_7 : decode b_Rp_onPromise 7 = .ok (.aload_n 3, 1) := by decide +kernel
theorem d_Rp_onPromise_8 : decode b_Rp_onPromise 8 = .ok (.ifnonnull 4, 3) := by decide +kernel
theorem d_Rp_onPromise_11 : decode b_Rp_onPromise 11 = .ok (.return_, 1) := by decide +kernel
theorem d_Rp_onPromise_12 : decode b_Rp_onPromise 12 = .ok (.aload_n 3, 1) := by decide +kernel
theorem d_Rp_onPromise_13 : decode b_Rp_onPromise 13 = .ok (.aload_n 1, 1) := by decide +kernel
theorem d_Rp_onPromise_14 : decode b_Rp_onPromise 14 = .ok (.getfield 185, 3) := by decide +kernel
theorem d_Rp_onPromise_17 : decode b_Rp_onPromise 17 = .ok (.invokevirtual 189, 3) := by decide +kernel
theorem d_Rp_onPromise_20 : decode b_Rp_onPromise 20 = .ok (.aload_n 3, 1) := by decide +kernel
theorem d_Rp_onPromise_21 : decode b_Rp_onPromise 21 = .ok (.getfield 170, 3) := by decide +kernel
theorem d_Rp_onPromise_24 : decode b_Rp_onPromise 24 = .ok (.aload_n 0, 1) := by decide +kernel
theorem d_Rp_onPromise_25 : decode b_Rp_onPromise 25 = .ok (.getfield 18, 3) := by decide +kernel
theorem d_Rp_onPromise_28 : decode b_Rp_onPromise 28 = .ok (.if_icmp .ne 28, 3) := by decide +kernel
theorem d_Rp_onPromise_31 : decode b_Rp_onPromise 31 = .ok (.aload_n 3, 1) := by decide +kernel
theorem d_Rp_onPromise_32 : decode b_Rp_onPromise 32 = .ok (.new 180, 3) := by decide +kernel
theorem d_Rp_onPromise_35 : decode b_Rp_onPromise 35 = .ok (.dup, 1) := by decide +kernel
theorem d_Rp_onPromise_36 : decode b_Rp_onPromise 36 = .ok (.aload_n 0, 1) := by decide +kernel
theorem d_Rp_onPromise_37 : decode b_Rp_onPromise 37 = .ok (.getfield 9, 3) := by decide +kernel
theorem d_Rp_onPromise_40 : decode b_Rp_onPromise 40 = .ok (.aload_n 2, 1) := by decide +kernel
theorem d_Rp_onPromise_41 : decode b_Rp_onPromise 41 = .ok (.invokespecial 182, 3) := by decide +kernel
theorem d_Rp_onPromise_44 : decode b_Rp_onPromise 44 = .ok (.invokevirtual 189, 3) := by decide +kernel
theorem d_Rp_onPromise_47 : decode b_Rp_onPromise 47 = .ok (.aload_n 0, 1) := by decide +kernel
theorem d_Rp_onPromise_48 : decode b_Rp_onPromise 48 = .ok (.aload_n 1, 1) := by decide +kernel
theorem d_Rp_onPromise_49 : decode b_Rp_onPromise 49 = .ok (.getfield 92, 3) := by decide +kernel
theorem d_Rp_onPromise_52 : decode b_Rp_onPromise 52 = .ok (.aload_n 3, 1) := by decide +kernel
theorem d_Rp_onPromise_53 : decode b_Rp_onPromise 53 = .ok (.invokevirtual 193, 3) := by decide +kernel
theorem d_Rp_onPromise_56 : decode b_Rp_onPromise 56 = .ok (.return_, 1) := by decide +kernel
theorem d_Rp_receive_0 : decode b_Rp_receive 0 = .ok (.aload_n 0, 1) := by decide +kernel
theorem d_Rp_receive_1 : decode b_Rp_receive 1 = .ok (.getfield 88, 3) := by decide +kernel
theorem d_Rp_receive_4 : decode b_Rp_receive 4 = .ok (.ifCond .eq 4, 3) := by decide +kernel
theorem d_Rp_receive_7 : decode b_Rp_receive 7 = .ok (.return_, 1) := by decide +kernel
theorem d_Rp_receive_8 : decode b_Rp_receive 8 = .ok (.aload_n 0, 1) := by decide +kernel
theorem d_Rp_receive_9 : decode b_Rp_receive 9 = .ok (.getfield 27, 3) := by decide +kernel
theorem d_Rp_receive_12 : decode b_Rp_receive 12 = .ok (.aload_n 1, 1) := by decide +kernel
theorem d_Rp_receive_13 : decode b_Rp_receive 13 = .ok (.getfield 92, 3) := by decide +kernel
theorem d_Rp_receive_16 : decode b_Rp_receive 16 = .ok (.aaload, 1) := by decide +kernel
theorem d_Rp_receive_17 : decode b_Rp_receive 17 = .ok (.astore_n 2, 1) := by decide +kernel
theorem d_Rp_receive_18 : decode b_Rp_receive 18 = .ok (.aload_n 1, 1) := by decide +kernel
theorem d_Rp_receive_19 : decode b_Rp_receive 19 = .ok (.invokevirtual 95, 3) := by decide +kernel
theorem d_Rp_receive_22 : decode b_Rp_receive 22 = .ok (.ifCond .eq 22, 3) := by decide +kernel
theorem d_Rp_receive_25 : decode b_Rp_receive 25 = .ok (.aload_n 2, 1) := by decide +kernel
theorem d_Rp_receive_26 : decode b_Rp_receive 26 = .ok (.invokevirtual 99, 3) := by decide +kernel
theorem d_Rp_receive_29 : decode b_Rp_receive 29 = .ok (.ifCond .eq 15, 3) := by decide +kernel
theorem d_Rp_receive_32 : decode b_Rp_receive 32 = .ok (.aload_n 0, 1) := by decide +kernel
theorem d_Rp_receive_33 : decode b_Rp_receive 33 = .ok (.aload_n 1, 1) := by decide +kernel
theorem d_Rp_receive_34 : decode b_Rp_receive 34 = .ok (.iconst 4, 1) := by decide +kernel
theorem d_Rp_receive_35 : decode b_Rp_receive 35 = .ok (.aload_n 2, 1) := by decide +kernel
theorem d_Rp_receive_36 : decode b_Rp_receive 36 = .ok (.getfield 102, 3) := by decide +kernel
theorem d_Rp_receive_39 : decode b_Rp_receive 39 = .ok (.aconst_null, 1) := by decide +kernel
theorem d_Rp_receive_40 : decode b_Rp_receive 40 = .ok (.invokevirtual 106, 3) := by decide +kernel
theorem d_Rp_receive_43 : decode b_Rp_receive 43 = .ok (.return_, 1) := by decide +kernel
theorem d_Rp_receive_44 : decode b_Rp_receive 44 = .ok (.aload_n 1, 1) := by decide +kernel
theorem d_Rp_receive_45 : decode b_Rp_receive 45 = .ok (.getfield 110, 3) := by decide +kernel
theorem d_Rp_receive_48 : decode b_Rp_receive 48 = .ok (.tableswitch 105 0 6 #[44, 53, 61, 70, 78, 87, 96], 44) := by decide +kernel
theorem d_Rp_receive_92 : decode b_Rp_receive 92 = .ok (.aload_n 0, 1) := by decide +kernel
theorem d_Rp_receive_93 : decode b_Rp_receive 93 = .ok (.aload_n 1, 1) := by decide +kernel
theorem d_Rp_receive_94 : decode b_Rp_receive 94 = .ok (.aload_n 2, 1) := by decide +kernel
theorem d_Rp_receive_95 : decode b_Rp_receive 95 = .ok (.invokevirtual 113, 3) := by decide +kernel
theorem d_Rp_receive_98 : decode b_Rp_receive 98 = .ok (.goto 55, 3) := by decide +kernel
theorem d_Rp_receive_101 : decode b_Rp_receive 101 = .ok (.aload_n 0, 1) := by decide +kernel
theorem d_Rp_receive_102 : decode b_Rp_receive 102 = .ok (.aload_n 1, 1) := by decide +kernel
theorem d_Rp_receive_103 : decode b_Rp_receive 103 = .ok (.invokevirtual 117, 3) := by decide +kernel
theorem d_Rp_receive_106 : decode b_Rp_receive 106 = .ok (.goto 47, 3) := by decide +kernel
theorem d_Rp_receive_109 : decode b_Rp_receive 109 = .ok (.aload_n 0, 1) := by decide +kernel
theorem d_Rp_receive_110 : decode b_Rp_receive 110 = .ok (.aload_n 1, 1) := by decide +kernel
theorem d_Rp_receive_111 : decode b_Rp_receive 111 = .ok (.aload_n 2, 1) := by decide +kernel
theorem d_Rp_receive_112 : decode b_Rp_receive 112 = .ok (.invokevirtual 120, 3) := by decide +kernel
theorem d_Rp_receive_115 : decode b_Rp_receive 115 = .ok (.goto 38, 3) := by decide +kernel
theorem d_Rp_receive_118 : decode b_Rp_receive 118 = .ok (.aload_n 0, 1) := by decide +kernel
theorem d_Rp_receive_119 : decode b_Rp_receive 119 = .ok (.aload_n 1, 1) := by decide +kernel
theorem d_Rp_receive_120 : decode b_Rp_receive 120 = .ok (.invokevirtual 123, 3) := by decide +kernel
theorem d_Rp_receive_123 : decode b_Rp_receive 123 = .ok (.goto 30, 3) := by decide +kernel
theorem d_Rp_receive_126 : decode b_Rp_receive 126 = .ok (.aload_n 0, 1) := by decide +kernel
theorem d_Rp_receive_127 : decode b_Rp_receive 127 = .ok (.aload_n 1, 1) := by decide +kernel
theorem d_Rp_receive_128 : decode b_Rp_receive 128 = .ok (.aload_n 2, 1) := by decide +kernel
theorem d_Rp_receive_129 : decode b_Rp_receive 129 = .ok (.invokevirtual 126, 3) := by decide +kernel
theorem d_Rp_receive_132 : decode b_Rp_receive 132 = .ok (.goto 21, 3) := by decide +kernel
theorem d_Rp_receive_135 : decode b_Rp_receive 135 = .ok (.aload_n 0, 1) := by decide +kernel
theorem d_Rp_receive_136 : decode b_Rp_receive 136 = .ok (.aload_n 1, 1) := by decide +kernel
theorem d_Rp_receive_137 : decode b_Rp_receive 137 = .ok (.aload_n 2, 1) := by decide +kernel
theorem d_Rp_receive_138 : decode b_Rp_receive 138 = .ok (.invokevirtual 129, 3) := by decide +kernel
theorem d_Rp_receive_141 : decode b_Rp_receive 141 = .ok (.goto 12, 3) := by decide +kernel
theorem d_Rp_receive_144 : decode b_Rp_receive 144 = .ok (.aload_n 0, 1) := by decide +kernel
theorem d_Rp_receive_145 : decode b_Rp_receive 145 = .ok (.aload_n 1, 1) := by decide +kernel
theorem d_Rp_receive_146 : decode b_Rp_receive 146 = .ok (.aload_n 2, 1) := by decide +kernel
theorem d_Rp_receive_147 : decode b_Rp_receive 147 = .ok (.invokevirtual 132, 3) := by decide +kernel
theorem d_Rp_receive_150 : decode b_Rp_receive 150 = .ok (.goto 3, 3) := by decide +kernel
theorem d_Rp_receive_153 : decode b_Rp_receive 153 = .ok (.return_, 1) := by decide +kernel
theorem d_LM_deliver_0 : decode b_LM_deliver 0 = .ok (.aload_n 0, 1) := by decide +kernel
theorem d_LM_deliver_1 : decode b_LM_deliver 1 = .ok (.getfield 19, 3) := by decide +kernel
theorem d_LM_deliver_4 : decode b_LM_deliver 4 = .ok (.iload_n 1, 1) := by decide +kernel
theorem d_LM_deliver_5 : decode b_LM_deliver 5 = .ok (.invokevirtual 67, 3) := by decide +kernel
theorem d_LM_deliver_8 : decode b_LM_deliver 8 = .ok (.astore_n 2, 1) := by decide +kernel
theorem d_LM_deliver_9 : decode b_LM_deliver 9 = .ok (.aload_n 2, 1) := by decide +kernel
theorem d_LM_deliver_10 : decode b_LM_deliver 10 = .ok (.ifnonnull 5, 3) := by decide +kernel
theorem d_LM_deliver_13 : decode b_LM_deliver 13 = .ok (.iconst (-1), 1) := by decide +kernel
theorem d_LM_deliver_14 : decode b_LM_deliver 14 = .ok (.ireturn, 1) := by decide +kernel
theorem d_LM_deliver_15 : decode b_LM_deliver 15 = .ok (.aload_n 0, 1) := by decide +kernel
theorem d_LM_deliver_16 : decode b_LM_deliver 16 = .ok (.getfield 25, 3) := by decide +kernel
theorem d_LM_deliver_19 : decode b_LM_deliver 19 = .ok (.aload_n 2, 1) := by decide +kernel
theorem d_LM_deliver_20 : decode b_LM_deliver 20 = .ok (.getfield 71, 3) := by decide +kernel
theorem d_LM_deliver_23 : decode b_LM_deliver 23 = .ok (.aaload, 1) := by decide +kernel
theorem d_LM_deliver_24 : decode b_LM_deliver 24 = .ok (.aload_n 2, 1) := by decide +kernel
theorem d_LM_deliver_25 : decode b_LM_deliver 25 = .ok (.invokevirtual 76, 3) := by decide +kernel
theorem d_LM_deliver_28 : decode b_LM_deliver 28 = .ok (.aload_n 2, 1) := by decide +kernel
theorem d_LM_deliver_29 : decode b_LM_deliver 29 = .ok (.getfield 80, 3) := by decide +kernel
theorem d_LM_deliver_32 : decode b_LM_deliver 32 = .ok (.ireturn, 1) := by decide +kernel
theorem d_LM_lose_0 : decode b_LM_lose 0 = .ok (.aload_n 0, 1) := by decide +kernel
theorem d_LM_lose_1 : decode b_LM_lose 1 = .ok (.getfield 19, 3) := by decide +kernel
theorem d_LM_lose_4 : decode b_LM_lose 4 = .ok (.iload_n 1, 1) := by decide +kernel
theorem d_LM_lose_5 : decode b_LM_lose 5 = .ok (.invokevirtual 67, 3) := by decide +kernel
theorem d_LM_lose_8 : decode b_LM_lose 8 = .ok (.ifnull 7, 3) := by decide +kernel
theorem d_LM_lose_11 : decode b_LM_lose 11 = .ok (.iconst 1, 1) := by decide +kernel
theorem d_LM_lose_12 : decode b_LM_lose 12 = .ok (.goto 4, 3) := by decide +kernel
theorem d_LM_lose_15 : decode b_LM_lose 15 = .ok (.iconst 0, 1) := by decide +kernel
theorem d_LM_lose_16 : decode b_LM_lose 16 = .ok (.ireturn, 1) := by decide +kernel
theorem d_LM_crash_0 : decode b_LM_crash 0 = .ok (.aload_n 0, 1) := by decide +kernel
theorem d_LM_crash_1 : decode b_LM_crash 1 = .ok (.iload_n 1, 1) := by decide +kernel
theorem d_LM_crash_2 : decode b_LM_crash 2 = .ok (.invokevirtual 32, 3) := by decide +kernel
theorem d_LM_crash_5 : decode b_LM_crash 5 = .ok (.astore_n 2, 1) := by decide +kernel
theorem d_LM_crash_6 : decode b_LM_crash 6 = .ok (.aload_n 2, 1) := by decide +kernel
theorem d_LM_crash_7 : decode b_LM_crash 7 = .ok (.ifnull 14, 3) := by decide +kernel
theorem d_LM_crash_10 : decode b_LM_crash 10 = .ok (.aload_n 0, 1) := by decide +kernel
theorem d_LM_crash_11 : decode b_LM_crash 11 = .ok (.getfield 83, 3) := by decide +kernel
theorem d_LM_crash_14 : decode b_LM_crash 14 = .ok (.aload_n 0, 1) := by decide +kernel
theorem d_LM_crash_15 : decode b_LM_crash 15 = .ok (.getfield 13, 3) := by decide +kernel
theorem d_LM_crash_18 : decode b_LM_crash 18 = .ok (.if_icmp .lt 5, 3) := by decide +kernel
theorem d_LM_crash_21 : decode b_LM_crash 21 = .ok (.iconst 0, 1) := by decide +kernel
theorem d_LM_crash_22 : decode b_LM_crash 22 = .ok (.ireturn, 1) := by decide +kernel
theorem d_LM_crash_23 : decode b_LM_crash 23 = .ok (.aload_n 2, 1) := by decide +kernel
theorem d_LM_crash_24 : decode b_LM_crash 24 = .ok (.iconst 1, 1) := by decide +kernel
theorem d_LM_crash_25 : decode b_LM_crash 25 = .ok (.putfield 86, 3) := by decide +kernel
theorem d_LM_crash_28 : decode b_LM_crash 28 = .ok (.aload_n 0, 1) := by decide +kernel
theorem d_LM_crash_29 : decode b_LM_crash 29 = .ok (.dup, 1) := by decide +kernel
theorem d_LM_crash_30 : decode b_LM_crash 30 = .ok (.getfield 83, 3) := by decide +kernel
theorem d_LM_crash_33 : decode b_LM_crash 33 = .ok (.iconst 1, 1) := by decide +kernel
theorem d_LM_crash_34 : decode b_LM_crash 34 = .ok (.iadd, 1) := by decide +kernel
theorem d_LM_crash_35 : decode b_LM_crash 35 = .ok (.putfield 83, 3) := by decide +kernel
theorem d_LM_crash_38 : decode b_LM_crash 38 = .ok (.iconst 1, 1) := by decide +kernel
theorem d_LM_crash_39 : decode b_LM_crash 39 = .ok (.ireturn, 1) := by decide +kernel
theorem d_Sto_contains_0 : decode b_Sto_contains 0 = .ok (.iload_n 0, 1) := by decide +kernel
theorem d_Sto_contains_1 : decode b_Sto_contains 1 = .ok (.iload_n 1, 1) := by decide +kernel
theorem d_Sto_contains_2 : decode b_Sto_contains 2 = .ok (.ishr, 1) := by decide +kernel
theorem d_Sto_contains_3 : decode b_Sto_contains 3 = .ok (.iconst 1, 1) := by decide +kernel
theorem d_Sto_contains_4 : decode b_Sto_contains 4 = .ok (.iand, 1) := by decide +kernel
theorem d_Sto_contains_5 : decode b_Sto_contains 5 = .ok (.ifCond .eq 7, 3) := by decide +kernel
theorem d_Sto_contains_8 : decode b_Sto_contains 8 = .ok (.iconst 1, 1) := by decide +kernel
theorem d_Sto_contains_9 : decode b_Sto_contains 9 = .ok (.goto 4, 3) := by decide +kernel
theorem d_Sto_contains_12 : decode b_Sto_contains 12 = .ok (.iconst 0, 1) := by decide +kernel
theorem d_Sto_contains_13 : decode b_Sto_contains 13 = .ok (.ireturn, 1) := by decide +kernel
theorem d_Sto_findReach_0 : decode b_Sto_findReach 0 = .ok (.iconst 0, 1) := by decide +kernel
theorem d_Sto_findReach_1 : decode b_Sto_findReach 1 = .ok (.istore_n 2, 1) := by decide +kernel
theorem d_Sto_findReach_2 : decode b_Sto_findReach 2 = .ok (.iload_n 2, 1) := by decide +kernel
theorem d_Sto_findReach_3 : decode b_Sto_findReach 3 = .ok (.aload_n 1, 1) := by decide +kernel
theorem d_Sto_findReach_4 : decode b_Sto_findReach 4 = .ok (.arraylength, 1) := by decide +kernel
theorem d_Sto_findReach_5 : decode b_Sto_findReach 5 = .ok (.if_icmp .ge 38, 3) := by decide +kernel
theorem d_Sto_findReach_8 : decode b_Sto_findReach 8 = .ok (.aload_n 0, 1) := by decide +kernel
theorem d_Sto_findReach_9 : decode b_Sto_findReach 9 = .ok (.getfield 15, 3) := by decide +kernel
theorem d_Sto_findReach_12 : decode b_Sto_findReach 12 = .ok (.iload_n 2, 1) := by decide +kernel
theorem d_Sto_findReach_13 : decode b_Sto_findReach 13 = .ok (.aload_n 1, 1) := by decide +kernel
theorem d_Sto_findReach_14 : decode b_Sto_findReach 14 = .ok (.iload_n 2, 1) := by decide +kernel
theorem d_Sto_findReach_15 : decode b_Sto_findReach 15 = .ok (.aaload, 1) := by decide +kernel
theorem d_Sto_findReach_16 : decode b_Sto_findReach 16 = .ok (.getfield 34, 3) := by decide +kernel
theorem d_Sto_findReach_19 : decode b_Sto_findReach 19 = .ok (.iconst 3, 1) := by decide +kernel
theorem d_Sto_findReach_20 : decode b_Sto_findReach 20 = .ok (.if_icmp .ne 15, 3) := by decide +kernel
theorem d_Sto_findReach_23 : decode b_Sto_findReach 23 = .ok (.aload_n 1, 1) := by decide +kernel
theorem d_Sto_findReach_24 : decode b_Sto_findReach 24 = .ok (.iload_n 2, 1) := by decide +kernel
theorem d_Sto_findReach_25 : decode b_Sto_findReach 25 = .ok (.aaload, 1) := by decide +kernel
theorem d_Sto_findReach_26 : decode b_Sto_findReach 26 = .ok (.getfield 39, 3) := by decide +kernel
theorem d_Sto_findReach_29 : decode b_Sto_findReach 29 = .ok (.getfield 43, 3) := by decide +kernel
theorem d_Sto_findReach_32 : decode b_Sto_findReach 32 = .ok (.goto 4, 3) := by decide +kernel
theorem d_Sto_findReach_35 : decode b_Sto_findReach 35 = .ok (.iconst 0, 1) := by decide +kernel
theorem d_Sto_findReach_36 : decode b_Sto_findReach 36 = .ok (.iastore, 1) := by decide +kernel
theorem d_Sto_findReach_37 : decode b_Sto_findReach 37 = .ok (.iinc 2 1, 3) := by decide +kernel
theorem d_Sto_findReach_40 : decode b_Sto_findReach 40 = .ok (.goto (-38), 3) := by decide +kernel
theorem d_Sto_findReach_43 : decode b_Sto_findReach 43 = .ok (.iconst 0, 1) := by decide +kernel
theorem d_Sto_findReach_44 : decode b_Sto_findReach 44 = .ok (.istore_n 2, 1) := by decide +kernel
theorem d_Sto_findReach_45 : decode b_Sto_findReach 45 = .ok (.iload_n 2, 1) := by decide +kernel
theorem d_Sto_findReach_46 : decode b_Sto_findReach 46 = .ok (.aload_n 1, 1) := by decide +kernel
theorem d_Sto_findReach_47 : decode b_Sto_findReach 47 = .ok (.arraylength, 1) := by decide +kernel
theorem d_Sto_findReach_48 : decode b_Sto_findReach 48 = .ok (.if_icmp .ge 51, 3) := by decide +kernel
theorem d_Sto_findReach_51 : decode b_Sto_findReach 51 = .ok (.iconst 0, 1) := by decide +kernel
theorem d_Sto_findReach_52 : decode b_Sto_findReach 52 = .ok (.istore_n 3, 1) := by decide +kernel
theorem d_Sto_findReach_53 : decode b_Sto_findReach 53 = .ok (.iload_n 3, 1) := by decide +kernel
theorem d_Sto_findReach_54 : decode b_Sto_findReach 54 = .ok (.aload_n 1, 1) := by decide +kernel
theorem d_Sto_findReach_55 : decode b_Sto_findReach 55 = .ok (.arraylength, 1) := by decide +kernel
theorem d_Sto_findReach_56 : decode b_Sto_findReach 56 = .ok (.if_icmp .ge 37, 3) := by decide +kernel
theorem d_Sto_findReach_59 : decode b_Sto_findReach 59 = .ok (.aload_n 0, 1) := by decide +kernel
theorem d_Sto_findReach_60 : decode b_Sto_findReach 60 = .ok (.getfield 15, 3) := by decide +kernel
theorem d_Sto_findReach_63 : decode b_Sto_findReach 63 = .ok (.iload_n 3, 1) := by decide +kernel
theorem d_Sto_findReach_64 : decode b_Sto_findReach 64 = .ok (.iaload, 1) := by decide +kernel
theorem d_Sto_findReach_65 : decode b_Sto_findReach 65 = .ok (.iload_n 2, 1) := by decide +kernel
theorem d_Sto_findReach_66 : decode b_Sto_findReach 66 = .ok (.invokestatic 48, 3) := by decide +kernel
theorem d_Sto_findReach_69 : decode b_Sto_findReach 69 = .ok (.ifCond .eq 18, 3) := by decide +kernel
theorem d_Sto_findReach_72 : decode b_Sto_findReach 72 = .ok (.aload_n 0, 1) := by decide +kernel
theorem d_Sto_findReach_73 : decode b_Sto_findReach 73 = .ok (.getfield 15, 3) := by decide +kernel
theorem d_Sto_findReach_76 : decode b_Sto_findReach 76 = .ok (.iload_n 3, 1) := by decide +kernel
theorem d_Sto_findReach_77 : decode b_Sto_findReach 77 = .ok (.dup2, 1) := by decide +kernel
theorem d_Sto_findReach_78 : decode b_Sto_findReach 78 = .ok (.iaload, 1) := by decide +kernel
theorem d_Sto_findReach_79 : decode b_Sto_findReach 79 = .ok (.aload_n 0, 1) := by decide +kernel
theorem d_Sto_findReach_80 : decode b_Sto_findReach 80 = .ok (.getfield 15, 3) := by decide +kernel
theorem d_Sto_findReach_83 : decode b_Sto_findReach 83 = .ok (.iload_n 2, 1) := by decide +kernel
theorem d_Sto_findReach_84 : decode b_Sto_findReach 84 = .ok (.iaload, 1) := by decide +kernel
theorem d_Sto_findReach_85 : decode b_Sto_findReach 85 = .ok (.ior, 1) := by decide +kernel
theorem d_Sto_findReach_86 : decode b_Sto_findReach 86 = .ok (.iastore, 1) := by decide +kernel
theorem d_Sto_findReach_87 : decode b_Sto_findReach 87 = .ok (.iinc 3 1, 3) := by decide +kernel
theorem d_Sto_findReach_90 : decode b_Sto_findReach 90 = .ok (.goto (-37), 3) := by decide +kernel
theorem d_Sto_findReach_93 : decode b_Sto_findReach 93 = .ok (.iinc 2 1, 3) := by decide +kernel
theorem d_Sto_findReach_96 : decode b_Sto_findReach 96 = .ok (.goto (-51), 3) := by decide +kernel
theorem d_Sto_findReach_99 : decode b_Sto_findReach 99 = .ok (.return_, 1) := by decide +kernel
theorem d_Sto_readyComponent_0 : decode b_Sto_readyComponent 0 = .ok (.aload_n 0, 1) := by decide +kernel
theorem d_Sto_readyComponent_1 : decode b_Sto_readyComponent 1 = .ok (.getfield 15, 3) := by decide +kernel
theorem d_Sto_readyComponent_4 : decode b_Sto_readyComponent 4 = .ok (.iload_n 1, 1) := by decide +kernel
theorem d_Sto_readyComponent_5 : decode b_Sto_readyComponent 5 = .ok (.iaload, 1) := by decide +kernel
theorem d_Sto_readyComponent_6 : decode b_Sto_readyComponent 6 = .ok (.iconst 1, 1) := by decide +kernel
theorem d_Sto_readyComponent_7 : decode b_Sto_readyComponent 7 = .ok (.iload_n 1, 1) := by decide +kernel
theorem d_Sto_readyComponent_8 : decode b_Sto_readyComponent 8 = .ok (.ishl, 1) := by decide +kernel
theorem d_Sto_readyComponent_9 : decode b_Sto_readyComponent 9 = .ok (.ior, 1) := by decide +kernel
theorem d_Sto_readyComponent_10 : decode b_Sto_readyComponent 10 = .ok (.aload_n 0, 1) := by decide +kernel
theorem d_Sto_readyComponent_11 : decode b_Sto_readyComponent 11 = .ok (.getfield 56, 3) := by decide +kernel
theorem d_Sto_readyComponent_14 : decode b_Sto_readyComponent 14 = .ok (.iconst (-1), 1) := by decide +kernel
theorem d_Sto_readyComponent_15 : decode b_Sto_readyComponent 15 = .ok (.ixor, 1) := by decide +kernel
theorem d_Sto_readyComponent_16 : decode b_Sto_readyComponent 16 = .ok (.iand, 1) := by decide +kernel
theorem d_Sto_readyComponent_17 : decode b_Sto_readyComponent 17 = .ok (.istore_n 2, 1) := by decide +kernel
theorem d_Sto_readyComponent_18 : decode b_Sto_readyComponent 18 = .ok (.iconst 0, 1) := by decide +kernel
theorem d_Sto_readyComponent_19 : decode b_Sto_readyComponent 19 = .ok (.istore_n 3, 1) := by decide +kernel
theorem d_Sto_readyComponent_20 : decode b_Sto_readyComponent 20 = .ok (.iload_n 3, 1) := by decide +kernel
theorem d_Sto_readyComponent_21 : decode b_Sto_readyComponent 21 = .ok (.aload_n 0, 1) := by decide +kernel
theorem d_Sto_readyComponent_22 : decode b_Sto_readyComponent 22 = .ok (.getfield 15, 3) := by decide +kernel
theorem d_Sto_readyComponent_25 : decode b_Sto_readyComponent 25 = .ok (.arraylength, 1) := by decide +kernel
theorem d_Sto_readyComponent_26 : decode b_Sto_readyComponent 26 = .ok (.if_icmp .ge 49, 3) := by decide +kernel
theorem d_Sto_readyComponent_29 : decode b_Sto_readyComponent 29 = .ok (.iload_n 3, 1) := by decide +kernel
theorem d_Sto_readyComponent_30 : decode b_Sto_readyComponent 30 = .ok (.iload_n 1, 1) := by decide +kernel
theorem d_Sto_readyComponent_31 : decode b_Sto_readyComponent 31 = .ok (.if_icmp .eq 16, 3) := by decide +kernel
theorem d_Sto_readyComponent_34 : decode b_Sto_readyComponent 34 = .ok (.aload_n 0, 1) := by decide +kernel
theorem d_Sto_readyComponent_35 : decode b_Sto_readyComponent 35 = .ok (.getfield 15, 3) := by decide +kernel
theorem d_Sto_readyComponent_38 : decode b_Sto_readyComponent 38 = .ok (.iload_n 3, 1) := by decide +kernel
theorem d_Sto_readyComponent_39 : decode b_Sto_readyComponent 39 = .ok (.iaload, 1) := by decide +kernel
theorem d_Sto_readyComponent_40 : decode b_Sto_readyComponent 40 = .ok (.iload_n 1, 1) := by decide +kernel
theorem d_Sto_readyComponent_41 : decode b_Sto_readyComponent 41 = .ok (.invokestatic 48, 3) := by decide +kernel
theorem d_Sto_readyComponent_44 : decode b_Sto_readyComponent 44 = .ok (.ifCond .eq 7, 3) := by decide +kernel
theorem d_Sto_readyComponent_47 : decode b_Sto_readyComponent 47 = .ok (.iconst 1, 1) := by decide +kernel
theorem d_Sto_readyComponent_48 : decode b_Sto_readyComponent 48 = .ok (.goto 4, 3) := by decide +kernel
theorem d_Sto_readyComponent_51 : decode b_Sto_readyComponent 51 = .ok (.iconst 0, 1) := by decide +kernel
theorem d_Sto_readyComponent_52 : decode b_Sto_readyComponent 52 = .ok (.istore 4, 2) := by decide +kernel
theorem d_Sto_readyComponent_54 : decode b_Sto_readyComponent 54 = .ok (.iload_n 2, 1) := by decide +kernel
theorem d_Sto_readyComponent_55 : decode b_Sto_readyComponent 55 = .ok (.iload_n 3, 1) := by decide +kernel
theorem d_Sto_readyComponent_56 : decode b_Sto_readyComponent 56 = .ok (.invokestatic 48, 3) := by decide +kernel
theorem d_Sto_readyComponent_59 : decode b_Sto_readyComponent 59 = .ok (.ifCond .eq 10, 3) := by decide +kernel
theorem d_Sto_readyComponent_62 : decode b_Sto_readyComponent 62 = .ok (.iload 4, 2) := by decide +kernel
theorem d_Sto_readyComponent_64 : decode b_Sto_readyComponent 64 = .ok (.ifCond .ne 5, 3) := by decide +kernel
theorem d_Sto_readyComponent_67 : decode b_Sto_readyComponent 67 = .ok (.iconst 0, 1) := by decide +kernel
theorem d_Sto_readyComponent_68 : decode b_Sto_readyComponent 68 = .ok (.ireturn, 1) := by decide +kernel
theorem d_Sto_readyComponent_69 : decode b_Sto_readyComponent 69 = .ok (.iinc 3 1, 3) := by decide +kernel
theorem d_Sto_readyComponent_72 : decode b_Sto_readyComponent 72 = .ok (.goto (-52), 3) := by decide +kernel
theorem d_Sto_readyComponent_75 : decode b_Sto_readyComponent 75 = .ok (.iload_n 2, 1) := by decide +kernel
theorem d_Sto_readyComponent_76 : decode b_Sto_readyComponent 76 = .ok (.ireturn, 1) := by decide +kernel
theorem d_Sto_leastReadyComponent_0 : decode b_Sto_leastReadyComponent 0 = .ok (.iconst 0, 1) := by decide +kernel
theorem d_Sto_leastReadyComponent_1 : decode b_Sto_leastReadyComponent 1 = .ok (.istore_n 2, 1) := by decide +kernel
theorem d_Sto_leastReadyComponent_2 : decode b_Sto_leastReadyComponent 2 = .ok (.iload_n 2, 1) := by decide +kernel
theorem d_Sto_leastReadyComponent_3 : decode b_Sto_leastReadyComponent 3 = .ok (.aload_n 1, 1) := by decide +kernel
theorem d_Sto_leastReadyComponent_4 : decode b_Sto_leastReadyComponent 4 = .ok (.arraylength, 1) := by decide +kernel
theorem d_Sto_leastReadyComponent_5 : decode b_Sto_leastReadyComponent 5 = .ok (.if_icmp .ge 35, 3) := by decide +kernel
theorem d_Sto_leastReadyComponent_8 : decode b_Sto_leastReadyComponent 8 = .ok (.aload_n 1, 1) := by decide +kernel
theorem d_Sto_leastReadyComponent_9 : decode b_Sto_leastReadyComponent 9 = .ok (.iload_n 2, 1) := by decide +kernel
theorem d_Sto_leastReadyComponent_10 : decode b_Sto_leastReadyComponent 10 = .ok (.aaload, 1) := by decide +kernel
theorem d_Sto_leastReadyComponent_11 : decode b_Sto_leastReadyComponent 11 = .ok (.getfield 34, 3) := by decide +kernel
theorem d_Sto_leastReadyComponent_14 : decode b_Sto_leastReadyComponent 14 = .ok (.iconst 3, 1) := by decide +kernel
theorem d_Sto_leastReadyComponent_15 : decode b_Sto_leastReadyComponent 15 = .ok (.if_icmp .ne 11, 3) := by decide +kernel
theorem d_Sto_leastReadyComponent_18 : decode b_Sto_leastReadyComponent 18 = .ok (.aload_n 0, 1) := by decide +kernel
theorem d_Sto_leastReadyComponent_19 : decode b_Sto_leastReadyComponent 19 = .ok (.iload_n 2, 1) := by decide +kernel
theorem d_Sto_leastReadyComponent_20 : decode b_Sto_leastReadyComponent 20 = .ok (.invokevirtual 52, 3) := by decide +kernel
theorem d_Sto_leastReadyComponent_23 : decode b_Sto_leastReadyComponent 23 = .ok (.goto 4, 3) := by decide +kernel
theorem d_Sto_leastReadyComponent_26 : decode b_Sto_leastReadyComponent 26 = .ok (.iconst 0, 1) := by decide +kernel
theorem d_Sto_leastReadyComponent_27 : decode b_Sto_leastReadyComponent 27 = .ok (.istore_n 3, 1) := by decide +kernel
theorem d_Sto_leastReadyComponent_28 : decode b_Sto_leastReadyComponent 28 = .ok (.iload_n 3, 1) := by decide +kernel
theorem d_Sto_leastReadyComponent_29 : decode b_Sto_leastReadyComponent 29 = .ok (.ifCond .eq 5, 3) := by decide +kernel
theorem d_Sto_leastReadyComponent_32 : decode b_Sto_leastReadyComponent 32 = .ok (.iload_n 3, 1) := by decide +kernel
theorem d_Sto_leastReadyComponent_33 : decode b_Sto_leastReadyComponent 33 = .ok (.ireturn, 1) := by decide +kernel
theorem d_Sto_leastReadyComponent_34 : decode b_Sto_leastReadyComponent 34 = .ok (.iinc 2 1, 3) := by decide +kernel
theorem d_Sto_leastReadyComponent_37 : decode b_Sto_leastReadyComponent 37 = .ok (.goto (-35), 3) := by decide +kernel
theorem d_Sto_leastReadyComponent_40 : decode b_Sto_leastReadyComponent 40 = .ok (.iconst 0, 1) := by decide +kernel
theorem d_Sto_leastReadyComponent_41 : decode b_Sto_leastReadyComponent 41 = .ok (.ireturn, 1) := by decide +kernel
end
section
theorem d_Sto_leastSeq_0 : decode b_Sto_leastSeq 0 = .ok (.iconst 0, 1) := by decide +kernel
theorem d_Sto_leastSeq_1 : decode b_Sto_leastSeq 1 = .ok (.istore_n 3, 1) := by decide +kernel
theorem d_Sto_leastSeq_2 : decode b_Sto_leastSeq 2 = .ok (.iconst 0, 1) := by decide +kernel
theorem d_Sto_leastSeq_3 : decode b_Sto_leastSeq 3 = .ok (.istore 4, 2) := by decide +kernel
theorem d_Sto_leastSeq_5 : decode b_Sto_leastSeq 5 = .ok (.iconst 0, 1) := by decide +kernel
theorem d_Sto_leastSeq_6 : decode b_Sto_leastSeq 6 = .ok (.istore 5, 2) := by decide +kernel
theorem d_Sto_leastSeq_8 : decode b_Sto_leastSeq 8 = .ok (.iload 5, 2) := by decide +kernel
theorem d_Sto_leastSeq_10 : decode b_Sto_leastSeq 10 = .ok (.aload_n 1, 1) := by decide +kernel
theorem d_Sto_leastSeq_11 : decode b_Sto_leastSeq 11 = .ok (.arraylength, 1) := by decide +kernel
theorem d_Sto_leastSeq_12 : decode b_Sto_leastSeq 12 = .ok (.if_icmp .ge 51, 3) := by decide +kernel
theorem d_Sto_leastSeq_15 : decode b_Sto_leastSeq 15 = .ok (.iload_n 2, 1) := by decide +kernel
theorem d_Sto_leastSeq_16 : decode b_Sto_leastSeq 16 = .ok (.iload 5, 2) := by decide +kernel
theorem d_Sto_leastSeq_18 : decode b_Sto_leastSeq 18 = .ok (.invokestatic 48, 3) := by decide +kernel
theorem d_Sto_leastSeq_21 : decode b_Sto_leastSeq 21 = .ok (.ifCond .eq 36, 3) := by decide +kernel
theorem d_Sto_leastSeq_24 : decode b_Sto_leastSeq 24 = .ok (.iload 4, 2) := by decide +kernel
theorem d_Sto_leastSeq_26 : decode b_Sto_leastSeq 26 = .ok (.ifCond .eq 25, 3) := by decide +kernel
theorem d_Sto_leastSeq_29 : decode b_Sto_leastSeq 29 = .ok (.aload_n 1, 1) := by decide +kernel
theorem d_Sto_leastSeq_30 : decode b_Sto_leastSeq 30 = .ok (.iload 5, 2) := by decide +kernel
theorem d_Sto_leastSeq_32 : decode b_Sto_leastSeq 32 = .ok (.aaload, 1) := by decide +kernel
theorem d_Sto_leastSeq_33 : decode b_Sto_leastSeq 33 = .ok (.getfield 39, 3) := by decide +kernel
theorem d_Sto_leastSeq_36 : decode b_Sto_leastSeq 36 = .ok (.getfield 67, 3) := by decide +kernel
theorem d_Sto_leastSeq_39 : decode b_Sto_leastSeq 39 = .ok (.aload_n 1, 1) := by decide +kernel
theorem d_Sto_leastSeq_40 : decode b_Sto_leastSeq 40 = .ok (.iload_n 3, 1) := by decide +kernel
theorem d_Sto_leastSeq_41 : decode b_Sto_leastSeq 41 = .ok (.aaload, 1) := by decide +kernel
theorem d_Sto_leastSeq_42 : decode b_Sto_leastSeq 42 = .ok (.getfield 39, 3) := by decide +kernel
theorem d_Sto_leastSeq_45 : decode b_Sto_leastSeq 45 = .ok (.getfield 67, 3) := by decide +kernel
theorem d_Sto_leastSeq_48 : decode b_Sto_leastSeq 48 = .ok (.if_icmp .ge 9, 3) := by decide +kernel
theorem d_Sto_leastSeq_51 : decode b_Sto_leastSeq 51 = .ok (.iload 5, 2) := by decide +kernel
theorem d_Sto_leastSeq_53 : decode b_Sto_leastSeq 53 = .ok (.istore_n 3, 1) := by decide +kernel
theorem d_Sto_leastSeq_54 : decode b_Sto_leastSeq 54 = .ok (.iconst 1, 1) := by decide +kernel
theorem d_Sto_leastSeq_55 : decode b_Sto_leastSeq 55 = .ok (.istore 4, 2) := by decide +kernel
theorem d_Sto_leastSeq_57 : decode b_Sto_leastSeq 57 = .ok (.iinc 5 1, 3) := by decide +kernel
theorem d_Sto_leastSeq_60 : decode b_Sto_leastSeq 60 = .ok (.goto (-52), 3) := by decide +kernel
theorem d_Sto_leastSeq_63 : decode b_Sto_leastSeq 63 = .ok (.iload_n 3, 1) := by decide +kernel
theorem d_Sto_leastSeq_64 : decode b_Sto_leastSeq 64 = .ok (.ireturn, 1) := by decide +kernel
theorem d_Sto_runEntry_0 : decode b_Sto_runEntry 0 = .ok (.aload_n 1, 1) := by decide +kernel
theorem d_Sto_runEntry_1 : decode b_Sto_runEntry 1 = .ok (.getfield 39, 3) := by decide +kernel
theorem d_Sto_runEntry_4 : decode b_Sto_runEntry 4 = .ok (.getfield 70, 3) := by decide +kernel
theorem d_Sto_runEntry_7 : decode b_Sto_runEntry 7 = .ok (.astore_n 2, 1) := by decide +kernel
theorem d_Sto_runEntry_8 : decode b_Sto_runEntry 8 = .ok (.aload_n 1, 1) := by decide +kernel
theorem d_Sto_runEntry_9 : decode b_Sto_runEntry 9 = .ok (.aload_n 2, 1) := by decide +kernel
theorem d_Sto_runEntry_10 : decode b_Sto_runEntry 10 = .ok (.getfield 74, 3) := by decide +kernel
theorem d_Sto_runEntry_13 : decode b_Sto_runEntry 13 = .ok (.iconst 2, 1) := by decide +kernel
theorem d_Sto_runEntry_14 : decode b_Sto_runEntry 14 = .ok (.if_icmp .ne 7, 3) := by decide +kernel
theorem d_Sto_runEntry_17 : decode b_Sto_runEntry 17 = .ok (.iconst 0, 1) := by decide +kernel
theorem d_Sto_runEntry_18 : decode b_Sto_runEntry 18 = .ok (.goto 12, 3) := by decide +kernel
theorem d_Sto_runEntry_21 : decode b_Sto_runEntry 21 = .ok (.aload_n 0, 1) := by decide +kernel
theorem d_Sto_runEntry_22 : decode b_Sto_runEntry 22 = .ok (.getfield 9, 3) := by decide +kernel
theorem d_Sto_runEntry_25 : decode b_Sto_runEntry 25 = .ok (.aload_n 2, 1) := by decide +kernel
theorem d_Sto_runEntry_26 : decode b_Sto_runEntry 26 = .ok (.getfield 79, 3) := by decide +kernel
theorem d_Sto_runEntry_29 : decode b_Sto_runEntry 29 = .ok (.iaload, 1) := by decide +kernel
theorem d_Sto_runEntry_30 : decode b_Sto_runEntry 30 = .ok (.putfield 82, 3) := by decide +kernel
theorem d_Sto_runEntry_33 : decode b_Sto_runEntry 33 = .ok (.aload_n 2, 1) := by decide +kernel
theorem d_Sto_runEntry_34 : decode b_Sto_runEntry 34 = .ok (.getfield 74, 3) := by decide +kernel
theorem d_Sto_runEntry_37 : decode b_Sto_runEntry 37 = .ok (.iconst 1, 1) := by decide +kernel
theorem d_Sto_runEntry_38 : decode b_Sto_runEntry 38 = .ok (.if_icmp .ne 16, 3) := by decide +kernel
theorem d_Sto_runEntry_41 : decode b_Sto_runEntry 41 = .ok (.aload_n 0, 1) := by decide +kernel
theorem d_Sto_runEntry_42 : decode b_Sto_runEntry 42 = .ok (.getfield 9, 3) := by decide +kernel
theorem d_Sto_runEntry_45 : decode b_Sto_runEntry 45 = .ok (.aload_n 2, 1) := by decide +kernel
theorem d_Sto_runEntry_46 : decode b_Sto_runEntry 46 = .ok (.getfield 79, 3) := by decide +kernel
theorem d_Sto_runEntry_49 : decode b_Sto_runEntry 49 = .ok (.aload_n 2, 1) := by decide +kernel
theorem d_Sto_runEntry_50 : decode b_Sto_runEntry 50 = .ok (.getfield 85, 3) := by decide +kernel
theorem d_Sto_runEntry_53 : decode b_Sto_runEntry 53 = .ok (.iastore, 1) := by decide +kernel
theorem d_Sto_runEntry_54 : decode b_Sto_runEntry 54 = .ok (.aload_n 1, 1) := by decide +kernel
theorem d_Sto_runEntry_55 : decode b_Sto_runEntry 55 = .ok (.iconst 4, 1) := by decide +kernel
theorem d_Sto_runEntry_56 : decode b_Sto_runEntry 56 = .ok (.putfield 34, 3) := by decide +kernel
theorem d_Sto_runEntry_59 : decode b_Sto_runEntry 59 = .ok (.aload_n 1, 1) := by decide +kernel
theorem d_Sto_runEntry_60 : decode b_Sto_runEntry 60 = .ok (.aload_n 0, 1) := by decide +kernel
theorem d_Sto_runEntry_61 : decode b_Sto_runEntry 61 = .ok (.getfield 18, 3) := by decide +kernel
theorem d_Sto_runEntry_64 : decode b_Sto_runEntry 64 = .ok (.putfield 88, 3) := by decide +kernel
theorem d_Sto_runEntry_67 : decode b_Sto_runEntry 67 = .ok (.aload_n 0, 1) := by decide +kernel
theorem d_Sto_runEntry_68 : decode b_Sto_runEntry 68 = .ok (.dup, 1) := by decide +kernel
theorem d_Sto_runEntry_69 : decode b_Sto_runEntry 69 = .ok (.getfield 18, 3) := by decide +kernel
theorem d_Sto_runEntry_72 : decode b_Sto_runEntry 72 = .ok (.iconst 1, 1) := by decide +kernel
theorem d_Sto_runEntry_73 : decode b_Sto_runEntry 73 = .ok (.iadd, 1) := by decide +kernel
theorem d_Sto_runEntry_74 : decode b_Sto_runEntry 74 = .ok (.putfield 18, 3) := by decide +kernel
theorem d_Sto_runEntry_77 : decode b_Sto_runEntry 77 = .ok (.return_, 1) := by decide +kernel
theorem d_Sto_runComponent_0 : decode b_Sto_runComponent 0 = .ok (.iload_n 2, 1) := by decide +kernel
theorem d_Sto_runComponent_1 : decode b_Sto_runComponent 1 = .ok (.istore_n 3, 1) := by decide +kernel
theorem d_Sto_runComponent_2 : decode b_Sto_runComponent 2 = .ok (.iconst 0, 1) := by decide +kernel
theorem d_Sto_runComponent_3 : decode b_Sto_runComponent 3 = .ok (.istore 4, 2) := by decide +kernel
theorem d_Sto_runComponent_5 : decode b_Sto_runComponent 5 = .ok (.iload 4, 2) := by decide +kernel
theorem d_Sto_runComponent_7 : decode b_Sto_runComponent 7 = .ok (.aload_n 1, 1) := by decide +kernel
theorem d_Sto_runComponent_8 : decode b_Sto_runComponent 8 = .ok (.arraylength, 1) := by decide +kernel
theorem d_Sto_runComponent_9 : decode b_Sto_runComponent 9 = .ok (.if_icmp .ge 51, 3) := by decide +kernel
theorem d_Sto_runComponent_12 : decode b_Sto_runComponent 12 = .ok (.iload_n 3, 1) := by decide +kernel
theorem d_Sto_runComponent_13 : decode b_Sto_runComponent 13 = .ok (.ifCond .eq 47, 3) := by decide +kernel
theorem d_Sto_runComponent_16 : decode b_Sto_runComponent 16 = .ok (.aload_n 0, 1) := by decide +kernel
theorem d_Sto_runComponent_17 : decode b_Sto_runComponent 17 = .ok (.aload_n 1, 1) := by decide +kernel
theorem d_Sto_runComponent_18 : decode b_Sto_runComponent 18 = .ok (.iload_n 3, 1) := by decide +kernel
theorem d_Sto_runComponent_19 : decode b_Sto_runComponent 19 = .ok (.invokevirtual 59, 3) := by decide +kernel
theorem d_Sto_runComponent_22 : decode b_Sto_runComponent 22 = .ok (.istore 5, 2) := by decide +kernel
theorem d_Sto_runComponent_24 : decode b_Sto_runComponent 24 = .ok (.aload_n 0, 1) := by decide +kernel
theorem d_Sto_runComponent_25 : decode b_Sto_runComponent 25 = .ok (.aload_n 1, 1) := by decide +kernel
theorem d_Sto_runComponent_26 : decode b_Sto_runComponent 26 = .ok (.iload 5, 2) := by decide +kernel
theorem d_Sto_runComponent_28 : decode b_Sto_runComponent 28 = .ok (.aaload, 1) := by decide +kernel
theorem d_Sto_runComponent_29 : decode b_Sto_runComponent 29 = .ok (.invokevirtual 63, 3) := by decide +kernel
theorem d_Sto_runComponent_32 : decode b_Sto_runComponent 32 = .ok (.aload_n 0, 1) := by decide +kernel
theorem d_Sto_runComponent_33 : decode b_Sto_runComponent 33 = .ok (.dup, 1) := by decide +kernel
theorem d_Sto_runComponent_34 : decode b_Sto_runComponent 34 = .ok (.getfield 56, 3) := by decide +kernel
theorem d_Sto_runComponent_37 : decode b_Sto_runComponent 37 = .ok (.iconst 1, 1) := by decide +kernel
theorem d_Sto_runComponent_38 : decode b_Sto_runComponent 38 = .ok (.iload 5, 2) := by decide +kernel
theorem d_Sto_runComponent_40 : decode b_Sto_runComponent 40 = .ok (.ishl, 1) := by decide +kernel
theorem d_Sto_runComponent_41 : decode b_Sto_runComponent 41 = .ok (.ior, 1) := by decide +kernel
theorem d_Sto_runComponent_42 : decode b_Sto_runComponent 42 = .ok (.putfield 56, 3) := by decide +kernel
theorem d_Sto_runComponent_45 : decode b_Sto_runComponent 45 = .ok (.iload_n 3, 1) := by decide +kernel
theorem d_Sto_runComponent_46 : decode b_Sto_runComponent 46 = .ok (.iconst 1, 1) := by decide +kernel
theorem d_Sto_runComponent_47 : decode b_Sto_runComponent 47 = .ok (.iload 5, 2) := by decide +kernel
theorem d_Sto_runComponent_49 : decode b_Sto_runComponent 49 = .ok (.ishl, 1) := by decide +kernel
theorem d_Sto_runComponent_50 : decode b_Sto_runComponent 50 = .ok (.iconst (-1), 1) := by decide +kernel
theorem d_Sto_runComponent_51 : decode b_Sto_runComponent 51 = .ok (.ixor, 1) := by decide +kernel
theorem d_Sto_runComponent_52 : decode b_Sto_runComponent 52 = .ok (.iand, 1) := by decide +kernel
theorem d_Sto_runComponent_53 : decode b_Sto_runComponent 53 = .ok (.istore_n 3, 1) := by decide +kernel
theorem d_Sto_runComponent_54 : decode b_Sto_runComponent 54 = .ok (.iinc 4 1, 3) := by decide +kernel
theorem d_Sto_runComponent_57 : decode b_Sto_runComponent 57 = .ok (.goto (-52), 3) := by decide +kernel
theorem d_Sto_runComponent_60 : decode b_Sto_runComponent 60 = .ok (.return_, 1) := by decide +kernel
theorem d_Sto_runReady_0 : decode b_Sto_runReady 0 = .ok (.aload_n 0, 1) := by decide +kernel
theorem d_Sto_runReady_1 : decode b_Sto_runReady 1 = .ok (.getfield 18, 3) := by decide +kernel
theorem d_Sto_runReady_4 : decode b_Sto_runReady 4 = .ok (.istore_n 2, 1) := by decide +kernel
theorem d_Sto_runReady_5 : decode b_Sto_runReady 5 = .ok (.aload_n 0, 1) := by decide +kernel
theorem d_Sto_runReady_6 : decode b_Sto_runReady 6 = .ok (.aload_n 1, 1) := by decide +kernel
theorem d_Sto_runReady_7 : decode b_Sto_runReady 7 = .ok (.invokevirtual 22, 3) := by decide +kernel
theorem d_Sto_runReady_10 : decode b_Sto_runReady 10 = .ok (.iconst 0, 1) := by decide +kernel
theorem d_Sto_runReady_11 : decode b_Sto_runReady 11 = .ok (.istore_n 3, 1) := by decide +kernel
theorem d_Sto_runReady_12 : decode b_Sto_runReady 12 = .ok (.iload_n 3, 1) := by decide +kernel
theorem d_Sto_runReady_13 : decode b_Sto_runReady 13 = .ok (.aload_n 1, 1) := by decide +kernel
theorem d_Sto_runReady_14 : decode b_Sto_runReady 14 = .ok (.arraylength, 1) := by decide +kernel
theorem d_Sto_runReady_15 : decode b_Sto_runReady 15 = .ok (.if_icmp .ge 31, 3) := by decide +kernel
theorem d_Sto_runReady_18 : decode b_Sto_runReady 18 = .ok (.aload_n 0, 1) := by decide +kernel
theorem d_Sto_runReady_19 : decode b_Sto_runReady 19 = .ok (.aload_n 1, 1) := by decide +kernel
theorem d_Sto_runReady_20 : decode b_Sto_runReady 20 = .ok (.invokevirtual 26, 3) := by decide +kernel
theorem d_Sto_runReady_23 : decode b_Sto_runReady 23 = .ok (.istore 4, 2) := by decide +kernel
theorem d_Sto_runReady_25 : decode b_Sto_runReady 25 = .ok (.iload 4, 2) := by decide +kernel
theorem d_Sto_runReady_27 : decode b_Sto_runReady 27 = .ok (.ifCond .ne 6, 3) := by decide +kernel
theorem d_Sto_runReady_30 : decode b_Sto_runReady 30 = .ok (.goto 16, 3) := by decide +kernel
theorem d_Sto_runReady_33 : decode b_Sto_runReady 33 = .ok (.aload_n 0, 1) := by decide +kernel
theorem d_Sto_runReady_34 : decode b_Sto_runReady 34 = .ok (.aload_n 1, 1) := by decide +kernel
theorem d_Sto_runReady_35 : decode b_Sto_runReady 35 = .ok (.iload 4, 2) := by decide +kernel
theorem d_Sto_runReady_37 : decode b_Sto_runReady 37 = .ok (.invokevirtual 30, 3) := by decide +kernel
theorem d_Sto_runReady_40 : decode b_Sto_runReady 40 = .ok (.iinc 3 1, 3) := by decide +kernel
theorem d_Sto_runReady_43 : decode b_Sto_runReady 43 = .ok (.goto (-31), 3) := by decide +kernel
theorem d_Sto_runReady_46 : decode b_Sto_runReady 46 = .ok (.aload_n 0, 1) := by decide +kernel
theorem d_Sto_runReady_47 : decode b_Sto_runReady 47 = .ok (.getfield 18, 3) := by decide +kernel
theorem d_Sto_runReady_50 : decode b_Sto_runReady 50 = .ok (.iload_n 2, 1) := by decide +kernel
theorem d_Sto_runReady_51 : decode b_Sto_runReady 51 = .ok (.isub, 1) := by decide +kernel
theorem d_Sto_runReady_52 : decode b_Sto_runReady 52 = .ok (.ireturn, 1) := by decide +kernel
theorem d_LM_execute_0 : decode b_LM_execute 0 = .ok (.aload_n 0, 1) := by decide +kernel
theorem d_LM_execute_1 : decode b_LM_execute 1 = .ok (.iload_n 1, 1) := by decide +kernel
theorem d_LM_execute_2 : decode b_LM_execute 2 = .ok (.invokevirtual 32, 3) := by decide +kernel
theorem d_LM_execute_5 : decode b_LM_execute 5 = .ok (.astore_n 2, 1) := by decide +kernel
theorem d_LM_execute_6 : decode b_LM_execute 6 = .ok (.aload_n 2, 1) := by decide +kernel
theorem d_LM_execute_7 : decode b_LM_execute 7 = .ok (.ifnonnull 7, 3) := by decide +kernel
theorem d_LM_execute_10 : decode b_LM_execute 10 = .ok (.iconst (-1), 1) := by decide +kernel
theorem d_LM_execute_11 : decode b_LM_execute 11 = .ok (.goto 14, 3) := by decide +kernel
theorem d_LM_execute_14 : decode b_LM_execute 14 = .ok (.aload_n 2, 1) := by decide +kernel
theorem d_LM_execute_15 : decode b_LM_execute 15 = .ok (.getfield 90, 3) := by decide +kernel
theorem d_LM_execute_18 : decode b_LM_execute 18 = .ok (.aload_n 2, 1) := by decide +kernel
theorem d_LM_execute_19 : decode b_LM_execute 19 = .ok (.getfield 94, 3) := by decide +kernel
theorem d_LM_execute_22 : decode b_LM_execute 22 = .ok (.invokevirtual 98, 3) := by decide +kernel
theorem d_LM_execute_25 : decode b_LM_execute 25 = .ok (.ireturn, 1) := by decide +kernel
theorem d_LM_waiting_0 : decode b_LM_waiting 0 = .ok (.aload_n 0, 1) := by decide +kernel
theorem d_LM_waiting_1 : decode b_LM_waiting 1 = .ok (.getfield 19, 3) := by decide +kernel
theorem d_LM_waiting_4 : decode b_LM_waiting 4 = .ok (.getfield 104, 3) := by decide +kernel
theorem d_LM_waiting_7 : decode b_LM_waiting 7 = .ok (.ireturn, 1) := by decide +kernel
theorem d_LM_message_0 : decode b_LM_message 0 = .ok (.aload_n 0, 1) := by decide +kernel
theorem d_LM_message_1 : decode b_LM_message 1 = .ok (.getfield 19, 3) := by decide +kernel
theorem d_LM_message_4 : decode b_LM_message 4 = .ok (.iload_n 1, 1) := by decide +kernel
theorem d_LM_message_5 : decode b_LM_message 5 = .ok (.invokevirtual 107, 3) := by decide +kernel
theorem d_LM_message_8 : decode b_LM_message 8 = .ok (.astore_n 2, 1) := by decide +kernel
theorem d_LM_message_9 : decode b_LM_message 9 = .ok (.aload_n 2, 1) := by decide +kernel
theorem d_LM_message_10 : decode b_LM_message 10 = .ok (.ifnonnull 5, 3) := by decide +kernel
theorem d_LM_message_13 : decode b_LM_message 13 = .ok (.iconst (-1), 1) := by decide +kernel
theorem d_LM_message_14 : decode b_LM_message 14 = .ok (.ireturn, 1) := by decide +kernel
theorem d_LM_message_15 : decode b_LM_message 15 = .ok (.aload_n 2, 1) := by decide +kernel
theorem d_LM_message_16 : decode b_LM_message 16 = .ok (.getfield 80, 3) := by decide +kernel
theorem d_LM_message_19 : decode b_LM_message 19 = .ok (.bipush 8, 2) := by decide +kernel
theorem d_LM_message_21 : decode b_LM_message 21 = .ok (.aload_n 2, 1) := by decide +kernel
theorem d_LM_message_22 : decode b_LM_message 22 = .ok (.getfield 110, 3) := by decide +kernel
theorem d_LM_message_25 : decode b_LM_message 25 = .ok (.imul, 1) := by decide +kernel
theorem d_LM_message_26 : decode b_LM_message 26 = .ok (.iadd, 1) := by decide +kernel
theorem d_LM_message_27 : decode b_LM_message 27 = .ok (.bipush 64, 2) := by decide +kernel
theorem d_LM_message_29 : decode b_LM_message 29 = .ok (.aload_n 2, 1) := by decide +kernel
theorem d_LM_message_30 : decode b_LM_message 30 = .ok (.getfield 71, 3) := by decide +kernel
theorem d_LM_message_33 : decode b_LM_message 33 = .ok (.imul, 1) := by decide +kernel
theorem d_LM_message_34 : decode b_LM_message 34 = .ok (.iadd, 1) := by decide +kernel
theorem d_LM_message_35 : decode b_LM_message 35 = .ok (.sipush 512, 3) := by decide +kernel
theorem d_LM_message_38 : decode b_LM_message 38 = .ok (.aload_n 2, 1) := by decide +kernel
theorem d_LM_message_39 : decode b_LM_message 39 = .ok (.getfield 113, 3) := by decide +kernel
theorem d_LM_message_42 : decode b_LM_message 42 = .ok (.imul, 1) := by decide +kernel
theorem d_LM_message_43 : decode b_LM_message 43 = .ok (.iadd, 1) := by decide +kernel
theorem d_LM_message_44 : decode b_LM_message 44 = .ok (.ireturn, 1) := by decide +kernel
theorem d_LM_lost_0 : decode b_LM_lost 0 = .ok (.aload_n 0, 1) := by decide +kernel
theorem d_LM_lost_1 : decode b_LM_lost 1 = .ok (.getfield 19, 3) := by decide +kernel
theorem d_LM_lost_4 : decode b_LM_lost 4 = .ok (.getfield 116, 3) := by decide +kernel
theorem d_LM_lost_7 : decode b_LM_lost 7 = .ok (.ireturn, 1) := by decide +kernel
theorem d_LM_state_0 : decode b_LM_state 0 = .ok (.aload_n 0, 1) := by decide +kernel
theorem d_LM_state_1 : decode b_LM_state 1 = .ok (.iload_n 1, 1) := by decide +kernel
theorem d_LM_state_2 : decode b_LM_state 2 = .ok (.iload_n 2, 1) := by decide +kernel
theorem d_LM_state_3 : decode b_LM_state 3 = .ok (.invokevirtual 53, 3) := by decide +kernel
theorem d_LM_state_6 : decode b_LM_state 6 = .ok (.astore_n 3, 1) := by decide +kernel
theorem d_LM_state_7 : decode b_LM_state 7 = .ok (.aload_n 3, 1) := by decide +kernel
theorem d_LM_state_8 : decode b_LM_state 8 = .ok (.ifnonnull 7, 3) := by decide +kernel
theorem d_LM_state_11 : decode b_LM_state 11 = .ok (.iconst (-1), 1) := by decide +kernel
theorem d_LM_state_12 : decode b_LM_state 12 = .ok (.goto 7, 3) := by decide +kernel
theorem d_LM_state_15 : decode b_LM_state 15 = .ok (.aload_n 3, 1) := by decide +kernel
theorem d_LM_state_16 : decode b_LM_state 16 = .ok (.getfield 119, 3) := by decide +kernel
theorem d_LM_state_19 : decode b_LM_state 19 = .ok (.ireturn, 1) := by decide +kernel
theorem d_LM_orderAt_0 : decode b_LM_orderAt 0 = .ok (.aload_n 0, 1) := by decide +kernel
theorem d_LM_orderAt_1 : decode b_LM_orderAt 1 = .ok (.iload_n 1, 1) := by decide +kernel
theorem d_LM_orderAt_2 : decode b_LM_orderAt 2 = .ok (.iload_n 2, 1) := by decide +kernel
theorem d_LM_orderAt_3 : decode b_LM_orderAt 3 = .ok (.invokevirtual 53, 3) := by decide +kernel
theorem d_LM_orderAt_6 : decode b_LM_orderAt 6 = .ok (.astore_n 3, 1) := by decide +kernel
theorem d_LM_orderAt_7 : decode b_LM_orderAt 7 = .ok (.aload_n 3, 1) := by decide +kernel
theorem d_LM_orderAt_8 : decode b_LM_orderAt 8 = .ok (.ifnonnull 7, 3) := by decide +kernel
theorem d_LM_orderAt_11 : decode b_LM_orderAt 11 = .ok (.aconst_null, 1) := by decide +kernel
theorem d_LM_orderAt_12 : decode b_LM_orderAt 12 = .ok (.goto 7, 3) := by decide +kernel
theorem d_LM_orderAt_15 : decode b_LM_orderAt 15 = .ok (.aload_n 3, 1) := by decide +kernel
theorem d_LM_orderAt_16 : decode b_LM_orderAt 16 = .ok (.getfield 157, 3) := by decide +kernel
theorem d_LM_orderAt_19 : decode b_LM_orderAt 19 = .ok (.areturn, 1) := by decide +kernel
theorem d_Cmd_code_0 : decode b_Cmd_code 0 = .ok (.aload_n 0, 1) := by decide +kernel
theorem d_Cmd_code_1 : decode b_Cmd_code 1 = .ok (.getfield 9, 3) := by decide +kernel
theorem d_Cmd_code_4 : decode b_Cmd_code 4 = .ok (.iconst 2, 1) := by decide +kernel
theorem d_Cmd_code_5 : decode b_Cmd_code 5 = .ok (.if_icmp .ne 6, 3) := by decide +kernel
theorem d_Cmd_code_8 : decode b_Cmd_code 8 = .ok (.bipush 8, 2) := by decide +kernel
theorem d_Cmd_code_10 : decode b_Cmd_code 10 = .ok (.ireturn, 1) := by decide +kernel
theorem d_Cmd_code_11 : decode b_Cmd_code 11 = .ok (.aload_n 0, 1) := by decide +kernel
theorem d_Cmd_code_12 : decode b_Cmd_code 12 = .ok (.getfield 9, 3) := by decide +kernel
theorem d_Cmd_code_15 : decode b_Cmd_code 15 = .ok (.iconst 1, 1) := by decide +kernel
theorem d_Cmd_code_16 : decode b_Cmd_code 16 = .ok (.if_icmp .ne 12, 3) := by decide +kernel
theorem d_Cmd_code_19 : decode b_Cmd_code 19 = .ok (.iconst 4, 1) := by decide +kernel
theorem d_Cmd_code_20 : decode b_Cmd_code 20 = .ok (.aload_n 0, 1) := by decide +kernel
theorem d_Cmd_code_21 : decode b_Cmd_code 21 = .ok (.getfield 15, 3) := by decide +kernel
theorem d_Cmd_code_24 : decode b_Cmd_code 24 = .ok (.iadd, 1) := by decide +kernel
theorem d_Cmd_code_25 : decode b_Cmd_code 25 = .ok (.goto 7, 3) := by decide +kernel
theorem d_Cmd_code_28 : decode b_Cmd_code 28 = .ok (.aload_n 0, 1) := by decide +kernel
theorem d_Cmd_code_29 : decode b_Cmd_code 29 = .ok (.getfield 15, 3) := by decide +kernel
theorem d_Cmd_code_32 : decode b_Cmd_code 32 = .ok (.ireturn, 1) := by decide +kernel
theorem d_LM_command_0 : decode b_LM_command 0 = .ok (.aload_n 0, 1) := by decide +kernel
theorem d_LM_command_1 : decode b_LM_command 1 = .ok (.iload_n 1, 1) := by decide +kernel
theorem d_LM_command_2 : decode b_LM_command 2 = .ok (.iload_n 2, 1) := by decide +kernel
theorem d_LM_command_3 : decode b_LM_command 3 = .ok (.invokevirtual 122, 3) := by decide +kernel
theorem d_LM_command_6 : decode b_LM_command 6 = .ok (.astore_n 3, 1) := by decide +kernel
theorem d_LM_command_7 : decode b_LM_command 7 = .ok (.aload_n 3, 1) := by decide +kernel
theorem d_LM_command_8 : decode b_LM_command 8 = .ok (.ifnonnull 7, 3) := by decide +kernel
theorem d_LM_command_11 : decode b_LM_command 11 = .ok (.iconst (-1), 1) := by decide +kernel
theorem d_LM_command_12 : decode b_LM_command 12 = .ok (.goto 10, 3) := by decide +kernel
theorem d_LM_command_15 : decode b_LM_command 15 = .ok (.aload_n 3, 1) := by decide +kernel
theorem d_LM_command_16 : decode b_LM_command 16 = .ok (.getfield 126, 3) := by decide +kernel
theorem d_LM_command_19 : decode b_LM_command 19 = .ok (.invokevirtual 132, 3) := by decide +kernel
theorem d_LM_command_22 : decode b_LM_command 22 = .ok (.ireturn, 1) := by decide +kernel
theorem d_LM_seq_0 : decode b_LM_seq 0 = .ok (.aload_n 0, 1) := by decide +kernel
theorem d_LM_seq_1 : decode b_LM_seq 1 = .ok (.iload_n 1, 1) := by decide +kernel
theorem d_LM_seq_2 : decode b_LM_seq 2 = .ok (.iload_n 2, 1) := by decide +kernel
theorem d_LM_seq_3 : decode b_LM_seq 3 = .ok (.invokevirtual 122, 3) := by decide +kernel
theorem d_LM_seq_6 : decode b_LM_seq 6 = .ok (.astore_n 3, 1) := by decide +kernel
theorem d_LM_seq_7 : decode b_LM_seq 7 = .ok (.aload_n 3, 1) := by decide +kernel
theorem d_LM_seq_8 : decode b_LM_seq 8 = .ok (.ifnonnull 7, 3) := by decide +kernel
theorem d_LM_seq_11 : decode b_LM_seq 11 = .ok (.iconst (-1), 1) := by decide +kernel
theorem d_LM_seq_12 : decode b_LM_seq 12 = .ok (.goto 7, 3) := by decide +kernel
theorem d_LM_seq_15 : decode b_LM_seq 15 = .ok (.aload_n 3, 1) := by decide +kernel
theorem d_LM_seq_16 : decode b_LM_seq 16 = .ok (.getfield 135, 3) := by decide +kernel
theorem d_LM_seq_19 : decode b_LM_seq 19 = .ok (.ireturn, 1) := by decide +kernel
theorem d_LM_deps_0 : decode b_LM_deps 0 = .ok (.aload_n 0, 1) := by decide +kernel
theorem d_LM_deps_1 : decode b_LM_deps 1 = .ok (.iload_n 1, 1) := by decide +kernel
theorem d_LM_deps_2 : decode b_LM_deps 2 = .ok (.iload_n 2, 1) := by decide +kernel
theorem d_LM_deps_3 : decode b_LM_deps 3 = .ok (.invokevirtual 122, 3) := by decide +kernel
theorem d_LM_deps_6 : decode b_LM_deps 6 = .ok (.astore_n 3, 1) := by decide +kernel
theorem d_LM_deps_7 : decode b_LM_deps 7 = .ok (.aload_n 3, 1) := by decide +kernel
theorem d_LM_deps_8 : decode b_LM_deps 8 = .ok (.ifnonnull 7, 3) := by decide +kernel
theorem d_LM_deps_11 : decode b_LM_deps 11 = .ok (.iconst (-1), 1) := by decide +kernel
theorem d_LM_deps_12 : decode b_LM_deps 12 = .ok (.goto 7, 3) := by decide +kernel
theorem d_LM_deps_15 : decode b_LM_deps 15 = .ok (.aload_n 3, 1) := by decide +kernel
theorem d_LM_deps_16 : decode b_LM_deps 16 = .ok (.getfield 138, 3) := by decide +kernel
theorem d_LM_deps_19 : decode b_LM_deps 19 = .ok (.ireturn, 1) := by decide +kernel
theorem d_LM_promised_0 : decode b_LM_promised 0 = .ok (.aload_n 0, 1) := by decide +kernel
theorem d_LM_promised_1 : decode b_LM_promised 1 = .ok (.iload_n 1, 1) := by decide +kernel
theorem d_LM_promised_2 : decode b_LM_promised 2 = .ok (.iload_n 2, 1) := by decide +kernel
theorem d_LM_promised_3 : decode b_LM_promised 3 = .ok (.invokevirtual 53, 3) := by decide +kernel
theorem d_LM_promised_6 : decode b_LM_promised 6 = .ok (.astore_n 3, 1) := by decide +kernel
theorem d_LM_promised_7 : decode b_LM_promised 7 = .ok (.aload_n 3, 1) := by decide +kernel
theorem d_LM_promised_8 : decode b_LM_promised 8 = .ok (.ifnonnull 7, 3) := by decide +kernel
theorem d_LM_promised_11 : decode b_LM_promised 11 = .ok (.iconst (-1), 1) := by decide +kernel
theorem d_LM_promised_12 : decode b_LM_promised 12 = .ok (.goto 7, 3) := by decide +kernel
theorem d_LM_promised_15 : decode b_LM_promised 15 = .ok (.aload_n 3, 1) := by decide +kernel
theorem d_LM_promised_16 : decode b_LM_promised 16 = .ok (.getfield 141, 3) := by decide +kernel
theorem d_LM_promised_19 : decode b_LM_promised 19 = .ok (.ireturn, 1) := by decide +kernel
theorem d_LM_result_0 : decode b_LM_result 0 = .ok (.aload_n 0, 1) := by decide +kernel
theorem d_LM_result_1 : decode b_LM_result 1 = .ok (.iload_n 1, 1) := by decide +kernel
theorem d_LM_result_2 : decode b_LM_result 2 = .ok (.iload_n 2, 1) := by decide +kernel
theorem d_LM_result_3 : decode b_LM_result 3 = .ok (.invokevirtual 53, 3) := by decide +kernel
theorem d_LM_result_6 : decode b_LM_result 6 = .ok (.astore_n 3, 1) := by decide +kernel
theorem d_LM_result_7 : decode b_LM_result 7 = .ok (.aload_n 3, 1) := by decide +kernel
theorem d_LM_result_8 : decode b_LM_result 8 = .ok (.ifnull 11, 3) := by decide +kernel
theorem d_LM_result_11 : decode b_LM_result 11 = .ok (.aload_n 3, 1) := by decide +kernel
theorem d_LM_result_12 : decode b_LM_result 12 = .ok (.getfield 119, 3) := by decide +kernel
theorem d_LM_result_15 : decode b_LM_result 15 = .ok (.iconst 4, 1) := by decide +kernel
theorem d_LM_result_16 : decode b_LM_result 16 = .ok (.if_icmp .eq 7, 3) := by decide +kernel
theorem d_LM_result_19 : decode b_LM_result 19 = .ok (.iconst 0, 1) := by decide +kernel
theorem d_LM_result_20 : decode b_LM_result 20 = .ok (.goto 7, 3) := by decide +kernel
theorem d_LM_result_23 : decode b_LM_result 23 = .ok (.aload_n 3, 1) := by decide +kernel
theorem d_LM_result_24 : decode b_LM_result 24 = .ok (.getfield 144, 3) := by decide +kernel
theorem d_LM_result_27 : decode b_LM_result 27 = .ok (.ireturn, 1) := by decide +kernel
theorem d_LM_place_0 : decode b_LM_place 0 = .ok (.aload_n 0, 1) := by decide +kernel
theorem d_LM_place_1 : decode b_LM_place 1 = .ok (.iload_n 1, 1) := by decide +kernel
theorem d_LM_place_2 : decode b_LM_place 2 = .ok (.iload_n 2, 1) := by decide +kernel
theorem d_LM_place_3 : decode b_LM_place 3 = .ok (.invokevirtual 53, 3) := by decide +kernel
theorem d_LM_place_6 : decode b_LM_place 6 = .ok (.astore_n 3, 1) := by decide +kernel
theorem d_LM_place_7 : decode b_LM_place 7 = .ok (.aload_n 3, 1) := by decide +kernel
theorem d_LM_place_8 : decode b_LM_place 8 = .ok (.ifnull 11, 3) := by decide +kernel
theorem d_LM_place_11 : decode b_LM_place 11 = .ok (.aload_n 3, 1) := by decide +kernel
theorem d_LM_place_12 : decode b_LM_place 12 = .ok (.getfield 119, 3) := by decide +kernel
theorem d_LM_place_15 : decode b_LM_place 15 = .ok (.iconst 4, 1) := by decide +kernel
theorem d_LM_place_16 : decode b_LM_place 16 = .ok (.if_icmp .eq 7, 3) := by decide +kernel
theorem d_LM_place_19 : decode b_LM_place 19 = .ok (.iconst (-1), 1) := by decide +kernel
theorem d_LM_place_20 : decode b_LM_place 20 = .ok (.goto 7, 3) := by decide +kernel
theorem d_LM_place_23 : decode b_LM_place 23 = .ok (.aload_n 3, 1) := by decide +kernel
theorem d_LM_place_24 : decode b_LM_place 24 = .ok (.getfield 147, 3) := by decide +kernel
theorem d_LM_place_27 : decode b_LM_place 27 = .ok (.ireturn, 1) := by decide +kernel
theorem d_LM_value_0 : decode b_LM_value 0 = .ok (.aload_n 0, 1) := by decide +kernel
theorem d_LM_value_1 : decode b_LM_value 1 = .ok (.iload_n 1, 1) := by decide +kernel
theorem d_LM_value_2 : decode b_LM_value 2 = .ok (.invokevirtual 150, 3) := by decide +kernel
theorem d_LM_value_5 : decode b_LM_value 5 = .ok (.ifCond .eq 28, 3) := by decide +kernel
theorem d_LM_value_8 : decode b_LM_value 8 = .ok (.aload_n 0, 1) := by decide +kernel
theorem d_LM_value_9 : decode b_LM_value 9 = .ok (.iload_n 2, 1) := by decide +kernel
theorem d_LM_value_10 : decode b_LM_value 10 = .ok (.invokevirtual 36, 3) := by decide +kernel
theorem d_LM_value_13 : decode b_LM_value 13 = .ok (.ifCond .eq 20, 3) := by decide +kernel
theorem d_LM_value_16 : decode b_LM_value 16 = .ok (.aload_n 0, 1) := by decide +kernel
theorem d_LM_value_17 : decode b_LM_value 17 = .ok (.getfield 25, 3) := by decide +kernel
theorem d_LM_value_20 : decode b_LM_value 20 = .ok (.iload_n 1, 1) := by decide +kernel
theorem d_LM_value_21 : decode b_LM_value 21 = .ok (.aaload, 1) := by decide +kernel
theorem d_LM_value_22 : decode b_LM_value 22 = .ok (.getfield 90, 3) := by decide +kernel
theorem d_LM_value_25 : decode b_LM_value 25 = .ok (.getfield 153, 3) := by decide +kernel
theorem d_LM_value_28 : decode b_LM_value 28 = .ok (.iload_n 2, 1) := by decide +kernel
theorem d_LM_value_29 : decode b_LM_value 29 = .ok (.iaload, 1) := by decide +kernel
theorem d_LM_value_30 : decode b_LM_value 30 = .ok (.goto 4, 3) := by decide +kernel
theorem d_LM_value_33 : decode b_LM_value 33 = .ok (.iconst 0, 1) := by decide +kernel
theorem d_LM_value_34 : decode b_LM_value 34 = .ok (.ireturn, 1) := by decide +kernel
theorem d_Md_init_0 : decode b_Md_init 0 = .ok (.aload_n 0, 1) := by decide +kernel
theorem d_Md_init_1 : decode b_Md_init 1 = .ok (.invokespecial 1, 3) := by decide +kernel
theorem d_Md_init_4 : decode b_Md_init 4 = .ok (.aload_n 0, 1) := by decide +kernel
theorem d_Md_init_5 : decode b_Md_init 5 = .ok (.iconst 5, 1) := by decide +kernel
theorem d_Md_init_6 : decode b_Md_init 6 = .ok (.newarray .boolean, 2) := by decide +kernel
theorem d_Md_init_8 : decode b_Md_init 8 = .ok (.putfield 7, 3) := by decide +kernel
theorem d_Md_init_11 : decode b_Md_init 11 = .ok (.aload_n 0, 1) := by decide +kernel
theorem d_Md_init_12 : decode b_Md_init 12 = .ok (.bipush 20, 2) := by decide +kernel
theorem d_Md_init_14 : decode b_Md_init 14 = .ok (.newarray .int, 2) := by decide +kernel
theorem d_Md_init_16 : decode b_Md_init 16 = .ok (.putfield 13, 3) := by decide +kernel
theorem d_Md_init_19 : decode b_Md_init 19 = .ok (.aload_n 0, 1) := by decide +kernel
theorem d_Md_init_20 : decode b_Md_init 20 = .ok (.iconst 5, 1) := by decide +kernel
theorem d_Md_init_21 : decode b_Md_init 21 = .ok (.newarray .int, 2) := by decide +kernel
theorem d_Md_init_23 : decode b_Md_init 23 = .ok (.putfield 17, 3) := by decide +kernel
theorem d_Md_init_26 : decode b_Md_init 26 = .ok (.aload_n 0, 1) := by decide +kernel
theorem d_Md_init_27 : decode b_Md_init 27 = .ok (.sipush 150, 3) := by decide +kernel
theorem d_Md_init_30 : decode b_Md_init 30 = .ok (.newarray .int, 2) := by decide +kernel
theorem d_Md_init_32 : decode b_Md_init 32 = .ok (.putfield 20, 3) := by decide +kernel
theorem d_Md_init_35 : decode b_Md_init 35 = .ok (.aload_n 0, 1) := by decide +kernel
theorem d_Md_init_36 : decode b_Md_init 36 = .ok (.sipush 150, 3) := by decide +kernel
theorem d_Md_init_39 : decode b_Md_init 39 = .ok (.newarray .int, 2) := by decide +kernel
theorem d_Md_init_41 : decode b_Md_init 41 = .ok (.putfield 23, 3) := by decide +kernel
theorem d_Md_init_44 : decode b_Md_init 44 = .ok (.aload_n 0, 1) := by decide +kernel
theorem d_Md_init_45 : decode b_Md_init 45 = .ok (.sipush 150, 3) := by decide +kernel
theorem d_Md_init_48 : decode b_Md_init 48 = .ok (.newarray .int, 2) := by decide +kernel
theorem d_Md_init_50 : decode b_Md_init 50 = .ok (.putfield 26, 3) := by decide +kernel
theorem d_Md_init_53 : decode b_Md_init 53 = .ok (.aload_n 0, 1) := by decide +kernel
theorem d_Md_init_54 : decode b_Md_init 54 = .ok (.sipush 150, 3) := by decide +kernel
theorem d_Md_init_57 : decode b_Md_init 57 = .ok (.newarray .int, 2) := by decide +kernel
theorem d_Md_init_59 : decode b_Md_init 59 = .ok (.putfield 29, 3) := by decide +kernel
theorem d_Md_init_62 : decode b_Md_init 62 = .ok (.aload_n 0, 1) := by decide +kernel
theorem d_Md_init_63 : decode b_Md_init 63 = .ok (.sipush 150, 3) := by decide +kernel
theorem d_Md_init_66 : decode b_Md_init 66 = .ok (.newarray .int, 2) := by decide +kernel
theorem d_Md_init_68 : decode b_Md_init 68 = .ok (.putfield 32, 3) := by decide +kernel
theorem d_Md_init_71 : decode b_Md_init 71 = .ok (.aload_n 0, 1) := by decide +kernel
theorem d_Md_init_72 : decode b_Md_init 72 = .ok (.sipush 150, 3) := by decide +kernel
theorem d_Md_init_75 : decode b_Md_init 75 = .ok (.newarray .int, 2) := by decide +kernel
theorem d_Md_init_77 : decode b_Md_init 77 = .ok (.putfield 35, 3) := by decide +kernel
theorem d_Md_init_80 : decode b_Md_init 80 = .ok (.aload_n 0, 1) := by decide +kernel
theorem d_Md_init_81 : decode b_Md_init 81 = .ok (.sipush 150, 3) := by decide +kernel
theorem d_Md_init_84 : decode b_Md_init 84 = .ok (.newarray .int, 2) := by decide +kernel
theorem d_Md_init_86 : decode b_Md_init 86 = .ok (.putfield 38, 3) := by decide +kernel
theorem d_Md_init_89 : decode b_Md_init 89 = .ok (.aload_n 0, 1) := by decide +kernel
theorem d_Md_init_90 : decode b_Md_init 90 = .ok (.sipush 150, 3) := by decide +kernel
theorem d_Md_init_93 : decode b_Md_init 93 = .ok (.newarray .int, 2) := by decide +kernel
theorem d_Md_init_95 : decode b_Md_init 95 = .ok (.putfield 41, 3) := by decide +kernel
theorem d_Md_init_98 : decode b_Md_init 98 = .ok (.aload_n 0, 1) := by decide +kernel
theorem d_Md_init_99 : decode b_Md_init 99 = .ok (.sipush 150, 3) := by decide +kernel
theorem d_Md_init_102 : decode b_Md_init 102 = .ok (.newarray .int, 2) := by decide +kernel
theorem d_Md_init_104 : decode b_Md_init 104 = .ok (.putfield 44, 3) := by decide +kernel
theorem d_Md_init_107 : decode b_Md_init 107 = .ok (.aload_n 0, 1) := by decide +kernel
theorem d_Md_init_108 : decode b_Md_init 108 = .ok (.sipush 150, 3) := by decide +kernel
theorem d_Md_init_111 : decode b_Md_init 111 = .ok (.newarray .boolean, 2) := by decide +kernel
theorem d_Md_init_113 : decode b_Md_init 113 = .ok (.putfield 47, 3) := by decide +kernel
theorem d_Md_init_116 : decode b_Md_init 116 = .ok (.aload_n 0, 1) := by decide +kernel
theorem d_Md_init_117 : decode b_Md_init 117 = .ok (.sipush 150, 3) := by decide +kernel
theorem d_Md_init_120 : decode b_Md_init 120 = .ok (.newarray .int, 2) := by decide +kernel
theorem d_Md_init_122 : decode b_Md_init 122 = .ok (.putfield 50, 3) := by decide +kernel
theorem d_Md_init_125 : decode b_Md_init 125 = .ok (.aload_n 0, 1) := by decide +kernel
theorem d_Md_init_126 : decode b_Md_init 126 = .ok (.sipush 150, 3) := by decide +kernel
theorem d_Md_init_129 : decode b_Md_init 129 = .ok (.newarray .int, 2) := by decide +kernel
theorem d_Md_init_131 : decode b_Md_init 131 = .ok (.putfield 53, 3) := by decide +kernel
theorem d_Md_init_134 : decode b_Md_init 134 = .ok (.aload_n 0, 1) := by decide +kernel
theorem d_Md_init_135 : decode b_Md_init 135 = .ok (.sipush 150, 3) := by decide +kernel
theorem d_Md_init_138 : decode b_Md_init 138 = .ok (.newarray .int, 2) := by decide +kernel
theorem d_Md_init_140 : decode b_Md_init 140 = .ok (.putfield 56, 3) := by decide +kernel
theorem d_Md_init_143 : decode b_Md_init 143 = .ok (.aload_n 0, 1) := by decide +kernel
theorem d_Md_init_144 : decode b_Md_init 144 = .ok (.sipush 600, 3) := by decide +kernel
theorem d_Md_init_147 : decode b_Md_init 147 = .ok (.newarray .int, 2) := by decide +kernel
theorem d_Md_init_149 : decode b_Md_init 149 = .ok (.putfield 59, 3) := by decide +kernel
theorem d_Md_init_152 : decode b_Md_init 152 = .ok (.aload_n 0, 1) := by decide +kernel
theorem d_Md_init_153 : decode b_Md_init 153 = .ok (.sipush 600, 3) := by decide +kernel
theorem d_Md_init_156 : decode b_Md_init 156 = .ok (.newarray .int, 2) := by decide +kernel
theorem d_Md_init_158 : decode b_Md_init 158 = .ok (.putfield 62, 3) := by decide +kernel
theorem d_Md_init_161 : decode b_Md_init 161 = .ok (.aload_n 0, 1) := by decide +kernel
theorem d_Md_init_162 : decode b_Md_init 162 = .ok (.sipush 600, 3) := by decide +kernel
theorem d_Md_init_165 : decode b_Md_init 165 = .ok (.newarray .int, 2) := by decide +kernel
theorem d_Md_init_167 : decode b_Md_init 167 = .ok (.putfield 65, 3) := by decide +kernel
theorem d_Md_init_170 : decode b_Md_init 170 = .ok (.aload_n 0, 1) := by decide +kernel
theorem d_Md_init_171 : decode b_Md_init 171 = .ok (.sipush 600, 3) := by decide +kernel
theorem d_Md_init_174 : decode b_Md_init 174 = .ok (.newarray .int, 2) := by decide +kernel
theorem d_Md_init_176 : decode b_Md_init 176 = .ok (.putfield 68, 3) := by decide +kernel
theorem d_Md_init_179 : decode b_Md_init 179 = .ok (.aload_n 0, 1) := by decide +kernel
theorem d_Md_init_180 : decode b_Md_init 180 = .ok (.sipush 600, 3) := by decide +kernel
theorem d_Md_init_183 : decode b_Md_init 183 = .ok (.newarray .int, 2) := by decide +kernel
theorem d_Md_init_185 : decode b_Md_init 185 = .ok (.putfield 71, 3) := by decide +kernel
theorem d_Md_init_188 : decode b_Md_init 188 = .ok (.aload_n 0, 1) := by decide +kernel
theorem d_Md_init_189 : decode b_Md_init 189 = .ok (.sipush 600, 3) := by decide +kernel
theorem d_Md_init_192 : decode b_Md_init 192 = .ok (.newarray .int, 2) := by decide +kernel
theorem d_Md_init_194 : decode b_Md_init 194 = .ok (.putfield 74, 3) := by decide +kernel
theorem d_Md_init_197 : decode b_Md_init 197 = .ok (.aload_n 0, 1) := by decide +kernel
theorem d_Md_init_198 : decode b_Md_init 198 = .ok (.sipush 600, 3) := by decide +kernel
theorem d_Md_init_201 : decode b_Md_init 201 = .ok (.newarray .int, 2) := by decide +kernel
theorem d_Md_init_203 : decode b_Md_init 203 = .ok (.putfield 77, 3) := by decide +kernel
theorem d_Md_init_206 : decode b_Md_init 206 = .ok (.aload_n 0, 1) := by decide +kernel
theorem d_Md_init_207 : decode b_Md_init 207 = .ok (.sipush 451, 3) := by decide +kernel
theorem d_Md_init_210 : decode b_Md_init 210 = .ok (.newarray .int, 2) := by decide +kernel
theorem d_Md_init_212 : decode b_Md_init 212 = .ok (.putfield 80, 3) := by decide +kernel
theorem d_Md_init_215 : decode b_Md_init 215 = .ok (.aload_n 0, 1) := by decide +kernel
theorem d_Md_init_216 : decode b_Md_init 216 = .ok (.bipush 30, 2) := by decide +kernel
theorem d_Md_init_218 : decode b_Md_init 218 = .ok (.newarray .int, 2) := by decide +kernel
theorem d_Md_init_220 : decode b_Md_init 220 = .ok (.putfield 83, 3) := by decide +kernel
theorem d_Md_init_223 : decode b_Md_init 223 = .ok (.aload_n 0, 1) := by decide +kernel
theorem d_Md_init_224 : decode b_Md_init 224 = .ok (.iload_n 1, 1) := by decide +kernel
theorem d_Md_init_225 : decode b_Md_init 225 = .ok (.iconst 4, 1) := by decide +kernel
theorem d_Md_init_226 : decode b_Md_init 226 = .ok (.if_icmp .ge 7, 3) := by decide +kernel
theorem d_Md_init_229 : decode b_Md_init 229 = .ok (.iconst 3, 1) := by decide +kernel
theorem d_Md_init_230 : decode b_Md_init 230 = .ok (.goto 4, 3) := by decide +kernel
theorem d_Md_init_233 : decode b_Md_init 233 = .ok (.iconst 5, 1) := by decide +kernel
theorem d_Md_init_234 : decode b_Md_init 234 = .ok (.putfield 86, 3) := by decide +kernel
theorem d_Md_init_237 : decode b_Md_init 237 = .ok (.aload_n 0, 1) := by decide +kernel
theorem d_Md_init_238 : decode b_Md_init 238 = .ok (.aload_n 0, 1) := by decide +kernel
theorem d_Md_init_239 : decode b_Md_init 239 = .ok (.getfield 86, 3) := by decide +kernel
theorem d_Md_init_242 : decode b_Md_init 242 = .ok (.iconst 2, 1) := by decide +kernel
theorem d_Md_init_243 : decode b_Md_init 243 = .ok (.idiv, 1) := by decide +kernel
theorem d_Md_init_244 : decode b_Md_init 244 = .ok (.putfield 90, 3) := by decide +kernel
theorem d_Md_init_247 : decode b_Md_init 247 = .ok (.aload_n 0, 1) := by decide +kernel
theorem d_Md_init_248 : decode b_Md_init 248 = .ok (.bipush 6, 2) := by decide +kernel
theorem d_Md_init_250 : decode b_Md_init 250 = .ok (.aload_n 0, 1) := by decide +kernel
theorem d_Md_init_251 : decode b_Md_init 251 = .ok (.getfield 86, 3) := by decide +kernel
theorem d_Md_init_254 : decode b_Md_init 254 = .ok (.imul, 1) := by decide +kernel
theorem d_Md_init_255 : decode b_Md_init 255 = .ok (.putfield 93, 3) := by decide +kernel
theorem d_Md_init_258 : decode b_Md_init 258 = .ok (.return_, 1) := by decide +kernel
theorem d_Md_known_0 : decode b_Md_known 0 = .ok (.iload_n 1, 1) := by decide +kernel
theorem d_Md_known_1 : decode b_Md_known 1 = .ok (.ifCond .lt 27, 3) := by decide +kernel
theorem d_Md_known_4 : decode b_Md_known 4 = .ok (.iload_n 1, 1) := by decide +kernel
theorem d_Md_known_5 : decode b_Md_known 5 = .ok (.aload_n 0, 1) := by decide +kernel
theorem d_Md_known_6 : decode b_Md_known 6 = .ok (.getfield 86, 3) := by decide +kernel
theorem d_Md_known_9 : decode b_Md_known 9 = .ok (.if_icmp .ge 19, 3) := by decide +kernel
theorem d_Md_known_12 : decode b_Md_known 12 = .ok (.iload_n 2, 1) := by decide +kernel
theorem d_Md_known_13 : decode b_Md_known 13 = .ok (.ifCond .lt 15, 3) := by decide +kernel
theorem d_Md_known_16 : decode b_Md_known 16 = .ok (.iload_n 2, 1) := by decide +kernel
theorem d_Md_known_17 : decode b_Md_known 17 = .ok (.aload_n 0, 1) := by decide +kernel
theorem d_Md_known_18 : decode b_Md_known 18 = .ok (.getfield 93, 3) := by decide +kernel
theorem d_Md_known_21 : decode b_Md_known 21 = .ok (.if_icmp .ge 7, 3) := by decide +kernel
theorem d_Md_known_24 : decode b_Md_known 24 = .ok (.iconst 1, 1) := by decide +kernel
theorem d_Md_known_25 : decode b_Md_known 25 = .ok (.goto 4, 3) := by decide +kernel
theorem d_Md_known_28 : decode b_Md_known 28 = .ok (.iconst 0, 1) := by decide +kernel
theorem d_Md_known_29 : decode b_Md_known 29 = .ok (.ireturn, 1) := by decide +kernel
theorem d_Md_interfere_0 : decode b_Md_interfere 0 = .ok (.iload_n 0, 1) := by decide +kernel
theorem d_Md_interfere_1 : decode b_Md_interfere 1 = .ok (.bipush 8, 2) := by decide +kernel
theorem d_Md_interfere_3 : decode b_Md_interfere 3 = .ok (.if_icmp .eq 9, 3) := by decide +kernel
theorem d_Md_interfere_6 : decode b_Md_interfere 6 = .ok (.iload_n 1, 1) := by decide +kernel
theorem d_Md_interfere_7 : decode b_Md_interfere 7 = .ok (.bipush 8, 2) := by decide +kernel
theorem d_Md_interfere_9 : decode b_Md_interfere 9 = .ok (.if_icmp .ne 5, 3) := by decide +kernel
theorem d_Md_interfere_12 : decode b_Md_interfere 12 = .ok (.iconst 1, 1) := by decide +kernel
theorem d_Md_interfere_13 : decode b_Md_interfere 13 = .ok (.ireturn, 1) := by decide +kernel
theorem d_Md_interfere_14 : decode b_Md_interfere 14 = .ok (.iload_n 0, 1) := by decide +kernel
theorem d_Md_interfere_15 : decode b_Md_interfere 15 = .ok (.iconst 3, 1) := by decide +kernel
theorem d_Md_interfere_16 : decode b_Md_interfere 16 = .ok (.iand, 1) := by decide +kernel
theorem d_Md_interfere_17 : decode b_Md_interfere 17 = .ok (.iload_n 1, 1) := by decide +kernel
theorem d_Md_interfere_18 : decode b_Md_interfere 18 = .ok (.iconst 3, 1) := by decide +kernel
theorem d_Md_interfere_19 : decode b_Md_interfere 19 = .ok (.iand, 1) := by decide +kernel
theorem d_Md_interfere_20 : decode b_Md_interfere 20 = .ok (.if_icmp .ne 17, 3) := by decide +kernel
theorem d_Md_interfere_23 : decode b_Md_interfere 23 = .ok (.iload_n 0, 1) := by decide +kernel
theorem d_Md_interfere_24 : decode b_Md_interfere 24 = .ok (.iconst 4, 1) := by decide +kernel
theorem d_Md_interfere_25 : decode b_Md_interfere 25 = .ok (.if_icmp .ge 8, 3) := by decide +kernel
theorem d_Md_interfere_28 : decode b_Md_interfere 28 = .ok (.iload_n 1, 1) := by decide +kernel
theorem d_Md_interfere_29 : decode b_Md_interfere 29 = .ok (.iconst 4, 1) := by decide +kernel
theorem d_Md_interfere_30 : decode b_Md_interfere 30 = .ok (.if_icmp .lt 7, 3) := by decide +kernel
theorem d_Md_interfere_33 : decode b_Md_interfere 33 = .ok (.iconst 1, 1) := by decide +kernel
theorem d_Md_interfere_34 : decode b_Md_interfere 34 = .ok (.goto 4, 3) := by decide +kernel
theorem d_Md_interfere_37 : decode b_Md_interfere 37 = .ok (.iconst 0, 1) := by decide +kernel
theorem d_Md_interfere_38 : decode b_Md_interfere 38 = .ok (.ireturn, 1) := by decide +kernel
theorem d_Md_related_0 : decode b_Md_related 0 = .ok (.bipush 30, 2) := by decide +kernel
theorem d_Md_related_2 : decode b_Md_related 2 = .ok (.iload_n 1, 1) := by decide +kernel
theorem d_Md_related_3 : decode b_Md_related 3 = .ok (.imul, 1) := by decide +kernel
theorem d_Md_related_4 : decode b_Md_related 4 = .ok (.iload_n 3, 1) := by decide +kernel
theorem d_Md_related_5 : decode b_Md_related 5 = .ok (.iadd, 1) := by decide +kernel
theorem d_Md_related_6 : decode b_Md_related 6 = .ok (.istore 5, 2) := by decide +kernel
theorem d_Md_related_8 : decode b_Md_related 8 = .ok (.iload_n 3, 1) := by decide +kernel
theorem d_Md_related_9 : decode b_Md_related 9 = .ok (.iload_n 2, 1) := by decide +kernel
theorem d_Md_related_10 : decode b_Md_related 10 = .ok (.if_icmp .eq 32, 3) := by decide +kernel
theorem d_Md_related_13 : decode b_Md_related 13 = .ok (.aload_n 0, 1) := by decide +kernel
theorem d_Md_related_14 : decode b_Md_related 14 = .ok (.getfield 20, 3) := by decide +kernel
theorem d_Md_related_17 : decode b_Md_related 17 = .ok (.iload 5, 2) := by decide +kernel
theorem d_Md_related_19 : decode b_Md_related 19 = .ok (.iaload, 1) := by decide +kernel
theorem d_Md_related_20 : decode b_Md_related 20 = .ok (.ifCond .eq 22, 3) := by decide +kernel
theorem d_Md_related_23 : decode b_Md_related 23 = .ok (.aload_n 0, 1) := by decide +kernel
theorem d_Md_related_24 : decode b_Md_related 24 = .ok (.getfield 23, 3) := by decide +kernel
theorem d_Md_related_27 : decode b_Md_related 27 = .ok (.iload 5, 2) := by decide +kernel
theorem d_Md_related_29 : decode b_Md_related 29 = .ok (.iaload, 1) := by decide +kernel
theorem d_Md_related_30 : decode b_Md_related 30 = .ok (.iload 4, 2) := by decide +kernel
theorem d_Md_related_32 : decode b_Md_related 32 = .ok (.invokestatic 96, 3) := by decide +kernel
theorem d_Md_related_35 : decode b_Md_related 35 = .ok (.ifCond .eq 7, 3) := by decide +kernel
theorem d_Md_related_38 : decode b_Md_related 38 = .ok (.iconst 1, 1) := by decide +kernel
theorem d_Md_related_39 : decode b_Md_related 39 = .ok (.goto 4, 3) := by decide +kernel
theorem d_Md_related_42 : decode b_Md_related 42 = .ok (.iconst 0, 1) := by decide +kernel
theorem d_Md_related_43 : decode b_Md_related 43 = .ok (.ireturn, 1) := by decide +kernel
theorem d_Md_put_0 : decode b_Md_put 0 = .ok (.aload_n 0, 1) := by decide +kernel
theorem d_Md_put_1 : decode b_Md_put 1 = .ok (.getfield 20, 3) := by decide +kernel
theorem d_Md_put_4 : decode b_Md_put 4 = .ok (.iload_n 1, 1) := by decide +kernel
theorem d_Md_put_5 : decode b_Md_put 5 = .ok (.iload_n 2, 1) := by decide +kernel
theorem d_Md_put_6 : decode b_Md_put 6 = .ok (.iastore, 1) := by decide +kernel
theorem d_Md_put_7 : decode b_Md_put 7 = .ok (.aload_n 0, 1) := by decide +kernel
theorem d_Md_put_8 : decode b_Md_put 8 = .ok (.getfield 23, 3) := by decide +kernel
theorem d_Md_put_11 : decode b_Md_put 11 = .ok (.iload_n 1, 1) := by decide +kernel
theorem d_Md_put_12 : decode b_Md_put 12 = .ok (.iload_n 3, 1) := by decide +kernel
theorem d_Md_put_13 : decode b_Md_put 13 = .ok (.iastore, 1) := by decide +kernel
theorem d_Md_put_14 : decode b_Md_put 14 = .ok (.aload_n 0, 1) := by decide +kernel
theorem d_Md_put_15 : decode b_Md_put 15 = .ok (.getfield 26, 3) := by decide +kernel
theorem d_Md_put_18 : decode b_Md_put 18 = .ok (.iload_n 1, 1) := by decide +kernel
theorem d_Md_put_19 : decode b_Md_put 19 = .ok (.iload 4, 2) := by decide +kernel
theorem d_Md_put_21 : decode b_Md_put 21 = .ok (.iastore, 1) := by decide +kernel
theorem d_Md_put_22 : decode b_Md_put 22 = .ok (.return_, 1) := by decide +kernel
theorem d_Md_fit_0 : decode b_Md_fit 0 = .ok (.iload 5, 2) := by decide +kernel
theorem d_Md_fit_2 : decode b_Md_fit 2 = .ok (.istore 7, 2) := by decide +kernel
theorem d_Md_fit_4 : decode b_Md_fit 4 = .ok (.iload 6, 2) := by decide +kernel
theorem d_Md_fit_6 : decode b_Md_fit 6 = .ok (.istore 8, 2) := by decide +kernel
theorem d_Md_fit_8 : decode b_Md_fit 8 = .ok (.iconst 0, 1) := by decide +kernel
theorem d_Md_fit_9 : decode b_Md_fit 9 = .ok (.istore 9, 2) := by decide +kernel
theorem d_Md_fit_11 : decode b_Md_fit 11 = .ok (.iload 9, 2) := by decide +kernel
theorem d_Md_fit_13 : decode b_Md_fit 13 = .ok (.aload_n 0, 1) := by decide +kernel
theorem d_Md_fit_14 : decode b_Md_fit 14 = .ok (.getfield 93, 3) := by decide +kernel
theorem d_Md_fit_17 : decode b_Md_fit 17 = .ok (.if_icmp .ge 68, 3) := by decide +kernel
theorem d_Md_fit_20 : decode b_Md_fit 20 = .ok (.aload_n 0, 1) := by decide +kernel
theorem d_Md_fit_21 : decode b_Md_fit 21 = .ok (.iload_n 1, 1) := by decide +kernel
theorem d_Md_fit_22 : decode b_Md_fit 22 = .ok (.iload_n 2, 1) := by decide +kernel
theorem d_Md_fit_23 : decode b_Md_fit 23 = .ok (.iload 9, 2) := by decide +kernel
theorem d_Md_fit_25 : decode b_Md_fit 25 = .ok (.iload_n 3, 1) := by decide +kernel
theorem d_Md_fit_26 : decode b_Md_fit 26 = .ok (.invokevirtual 100, 3) := by decide +kernel
theorem d_Md_fit_29 : decode b_Md_fit 29 = .ok (.ifCond .eq 50, 3) := by decide +kernel
theorem d_Md_fit_32 : decode b_Md_fit 32 = .ok (.aload_n 0, 1) := by decide +kernel
theorem d_Md_fit_33 : decode b_Md_fit 33 = .ok (.getfield 29, 3) := by decide +kernel
theorem d_Md_fit_36 : decode b_Md_fit 36 = .ok (.bipush 30, 2) := by decide +kernel
theorem d_Md_fit_38 : decode b_Md_fit 38 = .ok (.iload_n 1, 1) := by decide +kernel
theorem d_Md_fit_39 : decode b_Md_fit 39 = .ok (.imul, 1) := by decide +kernel
theorem d_Md_fit_40 : decode b_Md_fit 40 = .ok (.iload 9, 2) := by decide +kernel
theorem d_Md_fit_42 : decode b_Md_fit 42 = .ok (.iadd, 1) := by decide +kernel
theorem d_Md_fit_43 : decode b_Md_fit 43 = .ok (.iaload, 1) := by decide +kernel
theorem d_Md_fit_44 : decode b_Md_fit 44 = .ok (.iload 7, 2) := by decide +kernel
theorem d_Md_fit_46 : decode b_Md_fit 46 = .ok (.if_icmp .lt 20, 3) := by decide +kernel
theorem d_Md_fit_49 : decode b_Md_fit 49 = .ok (.aload_n 0, 1) := by decide +kernel
theorem d_Md_fit_50 : decode b_Md_fit 50 = .ok (.getfield 29, 3) := by decide +kernel
theorem d_Md_fit_53 : decode b_Md_fit 53 = .ok (.bipush 30, 2) := by decide +kernel
theorem d_Md_fit_55 : decode b_Md_fit 55 = .ok (.iload_n 1, 1) := by decide +kernel
theorem d_Md_fit_56 : decode b_Md_fit 56 = .ok (.imul, 1) := by decide +kernel
theorem d_Md_fit_57 : decode b_Md_fit 57 = .ok (.iload 9, 2) := by decide +kernel
theorem d_Md_fit_59 : decode b_Md_fit 59 = .ok (.iadd, 1) := by decide +kernel
theorem d_Md_fit_60 : decode b_Md_fit 60 = .ok (.iaload, 1) := by decide +kernel
theorem d_Md_fit_61 : decode b_Md_fit 61 = .ok (.iconst 1, 1) := by decide +kernel
theorem d_Md_fit_62 : decode b_Md_fit 62 = .ok (.iadd, 1) := by decide +kernel
theorem d_Md_fit_63 : decode b_Md_fit 63 = .ok (.goto 5, 3) := by decide +kernel
theorem d_Md_fit_66 : decode b_Md_fit 66 = .ok (.iload 7, 2) := by decide +kernel
theorem d_Md_fit_68 : decode b_Md_fit 68 = .ok (.istore 7, 2) := by decide +kernel
theorem d_Md_fit_70 : decode b_Md_fit 70 = .ok (.iload 8, 2) := by decide +kernel
theorem d_Md_fit_72 : decode b_Md_fit 72 = .ok (.iconst 1, 1) := by decide +kernel
theorem d_Md_fit_73 : decode b_Md_fit 73 = .ok (.iload 9, 2) := by decide +kernel
theorem d_Md_fit_75 : decode b_Md_fit 75 = .ok (.ishl, 1) := by decide +kernel
theorem d_Md_fit_76 : decode b_Md_fit 76 = .ok (.ior, 1) := by decide +kernel
theorem d_Md_fit_77 : decode b_Md_fit 77 = .ok (.istore 8, 2) := by decide +kernel
theorem d_Md_fit_79 : decode b_Md_fit 79 = .ok (.iinc 9 1, 3) := by decide +kernel
theorem d_Md_fit_82 : decode b_Md_fit 82 = .ok (.goto (-71), 3) := by decide +kernel
theorem d_Md_fit_85 : decode b_Md_fit 85 = .ok (.aload_n 0, 1) := by decide +kernel
theorem d_Md_fit_86 : decode b_Md_fit 86 = .ok (.bipush 30, 2) := by decide +kernel
theorem d_Md_fit_88 : decode b_Md_fit 88 = .ok (.iload_n 1, 1) := by decide +kernel
theorem d_Md_fit_89 : decode b_Md_fit 89 = .ok (.imul, 1) := by decide +kernel
theorem d_Md_fit_90 : decode b_Md_fit 90 = .ok (.iload_n 2, 1) := by decide +kernel
theorem d_Md_fit_91 : decode b_Md_fit 91 = .ok (.iadd, 1) := by decide +kernel
theorem d_Md_fit_92 : decode b_Md_fit 92 = .ok (.iconst 1, 1) := by decide +kernel
theorem d_Md_fit_93 : decode b_Md_fit 93 = .ok (.iload_n 3, 1) := by decide +kernel
theorem d_Md_fit_94 : decode b_Md_fit 94 = .ok (.iload 4, 2) := by decide +kernel
theorem d_Md_fit_96 : decode b_Md_fit 96 = .ok (.invokevirtual 104, 3) := by decide +kernel
theorem d_Md_fit_99 : decode b_Md_fit 99 = .ok (.aload_n 0, 1) := by decide +kernel
theorem d_Md_fit_100 : decode b_Md_fit 100 = .ok (.getfield 29, 3) := by decide +kernel
theorem d_Md_fit_103 : decode b_Md_fit 103 = .ok (.bipush 30, 2) := by decide +kernel
theorem d_Md_fit_105 : decode b_Md_fit 105 = .ok (.iload_n 1, 1) := by decide +kernel
theorem d_Md_fit_106 : decode b_Md_fit 106 = .ok (.imul, 1) := by decide +kernel
theorem d_Md_fit_107 : decode b_Md_fit 107 = .ok (.iload_n 2, 1) := by decide +kernel
theorem d_Md_fit_108 : decode b_Md_fit 108 = .ok (.iadd, 1) := by decide +kernel
theorem d_Md_fit_109 : decode b_Md_fit 109 = .ok (.iload 7, 2) := by decide +kernel
theorem d_Md_fit_111 : decode b_Md_fit 111 = .ok (.iastore, 1) := by decide +kernel
theorem d_Md_fit_112 : decode b_Md_fit 112 = .ok (.aload_n 0, 1) := by decide +kernel
theorem d_Md_fit_113 : decode b_Md_fit 113 = .ok (.getfield 32, 3) := by decide +kernel
theorem d_Md_fit_116 : decode b_Md_fit 116 = .ok (.bipush 30, 2) := by decide +kernel
theorem d_Md_fit_118 : decode b_Md_fit 118 = .ok (.iload_n 1, 1) := by decide +kernel
theorem d_Md_fit_119 : decode b_Md_fit 119 = .ok (.imul, 1) := by decide +kernel
theorem d_Md_fit_120 : decode b_Md_fit 120 = .ok (.iload_n 2, 1) := by decide +kernel
theorem d_Md_fit_121 : decode b_Md_fit 121 = .ok (.iadd, 1) := by decide +kernel
theorem d_Md_fit_122 : decode b_Md_fit 122 = .ok (.iload 8, 2) := by decide +kernel
theorem d_Md_fit_124 : decode b_Md_fit 124 = .ok (.iastore, 1) := by decide +kernel
theorem d_Md_fit_125 : decode b_Md_fit 125 = .ok (.return_, 1) := by decide +kernel
theorem d_Md_send_0 : decode b_Md_send 0 = .ok (.aload_n 0, 1) := by decide +kernel
theorem d_Md_send_1 : decode b_Md_send 1 = .ok (.getfield 108, 3) := by decide +kernel
theorem d_Md_send_4 : decode b_Md_send 4 = .ok (.bipush 40, 2) := by decide +kernel
theorem d_Md_send_6 : decode b_Md_send 6 = .ok (.if_icmp .ne 14, 3) := by decide +kernel
theorem d_Md_send_9 : decode b_Md_send 9 = .ok (.aload_n 0, 1) := by decide +kernel
theorem d_Md_send_10 : decode b_Md_send 10 = .ok (.dup, 1) := by decide +kernel
theorem d_Md_send_11 : decode b_Md_send 11 = .ok (.getfield 111, 3) := by decide +kernel
theorem d_Md_send_14 : decode b_Md_send 14 = .ok (.iconst 1, 1) := by decide +kernel
theorem d_Md_send_15 : decode b_Md_send 15 = .ok (.iadd, 1) := by decide +kernel
theorem d_Md_send_16 : decode b_Md_send 16 = .ok (.putfield 111, 3) := by decide +kernel
theorem d_Md_send_19 : decode b_Md_send 19 = .ok (.return_, 1) := by decide +kernel
theorem d_Md_send_20 : decode b_Md_send 20 = .ok (.bipush 30, 2) := by decide +kernel
theorem d_Md_send_22 : decode b_Md_send 22 = .ok (.iload_n 2, 1) := by decide +kernel
theorem d_Md_send_23 : decode b_Md_send 23 = .ok (.imul, 1) := by decide +kernel
theorem d_Md_send_24 : decode b_Md_send 24 = .ok (.iload 4, 2) := by decide +kernel
theorem d_Md_send_26 : decode b_Md_send 26 = .ok (.iadd, 1) := by decide +kernel
theorem d_Md_send_27 : decode b_Md_send 27 = .ok (.istore 6, 2) := by decide +kernel
theorem d_Md_send_29 : decode b_Md_send 29 = .ok (.bipush 11, 2) := by decide +kernel
theorem d_Md_send_31 : decode b_Md_send 31 = .ok (.aload_n 0, 1) := by decide +kernel
theorem d_Md_send_32 : decode b_Md_send 32 = .ok (.getfield 108, 3) := by decide +kernel
theorem d_Md_send_35 : decode b_Md_send 35 = .ok (.imul, 1) := by decide +kernel
theorem d_Md_send_36 : decode b_Md_send 36 = .ok (.istore 7, 2) := by decide +kernel
theorem d_Md_send_38 : decode b_Md_send 38 = .ok (.aload_n 0, 1) := by decide +kernel
theorem d_Md_send_39 : decode b_Md_send 39 = .ok (.getfield 80, 3) := by decide +kernel
theorem d_Md_send_42 : decode b_Md_send 42 = .ok (.iload 7, 2) := by decide +kernel
theorem d_Md_send_44 : decode b_Md_send 44 = .ok (.iload_n 1, 1) := by decide +kernel
theorem d_Md_send_45 : decode b_Md_send 45 = .ok (.iastore, 1) := by decide +kernel
theorem d_Md_send_46 : decode b_Md_send 46 = .ok (.aload_n 0, 1) := by decide +kernel
theorem d_Md_send_47 : decode b_Md_send 47 = .ok (.getfield 80, 3) := by decide +kernel
theorem d_Md_send_50 : decode b_Md_send 50 = .ok (.iload 7, 2) := by decide +kernel
theorem d_Md_send_52 : decode b_Md_send 52 = .ok (.iconst 1, 1) := by decide +kernel
theorem d_Md_send_53 : decode b_Md_send 53 = .ok (.iadd, 1) := by decide +kernel
theorem d_Md_send_54 : decode b_Md_send 54 = .ok (.iload_n 2, 1) := by decide +kernel
theorem d_Md_send_55 : decode b_Md_send 55 = .ok (.iastore, 1) := by decide +kernel
theorem d_Md_send_56 : decode b_Md_send 56 = .ok (.aload_n 0, 1) := by decide +kernel
theorem d_Md_send_57 : decode b_Md_send 57 = .ok (.getfield 80, 3) := by decide +kernel
theorem d_Md_send_60 : decode b_Md_send 60 = .ok (.iload 7, 2) := by decide +kernel
theorem d_Md_send_62 : decode b_Md_send 62 = .ok (.iconst 2, 1) := by decide +kernel
theorem d_Md_send_63 : decode b_Md_send 63 = .ok (.iadd, 1) := by decide +kernel
theorem d_Md_send_64 : decode b_Md_send 64 = .ok (.iload_n 3, 1) := by decide +kernel
theorem d_Md_send_65 : decode b_Md_send 65 = .ok (.iastore, 1) := by decide +kernel
theorem d_Md_send_66 : decode b_Md_send 66 = .ok (.aload_n 0, 1) := by decide +kernel
theorem d_Md_send_67 : decode b_Md_send 67 = .ok (.getfield 80, 3) := by decide +kernel
theorem d_Md_send_70 : decode b_Md_send 70 = .ok (.iload 7, 2) := by decide +kernel
theorem d_Md_send_72 : decode b_Md_send 72 = .ok (.iconst 3, 1) := by decide +kernel
theorem d_Md_send_73 : decode b_Md_send 73 = .ok (.iadd, 1) := by decide +kernel
theorem d_Md_send_74 : decode b_Md_send 74 = .ok (.iload 4, 2) := by decide +kernel
theorem d_Md_send_76 : decode b_Md_send 76 = .ok (.iastore, 1) := by decide +kernel
theorem d_Md_send_77 : decode b_Md_send 77 = .ok (.aload_n 0, 1) := by decide +kernel
theorem d_Md_send_78 : decode b_Md_send 78 = .ok (.getfield 80, 3) := by decide +kernel
theorem d_Md_send_81 : decode b_Md_send 81 = .ok (.iload 7, 2) := by decide +kernel
theorem d_Md_send_83 : decode b_Md_send 83 = .ok (.iconst 4, 1) := by decide +kernel
theorem d_Md_send_84 : decode b_Md_send 84 = .ok (.iadd, 1) := by decide +kernel
theorem d_Md_send_85 : decode b_Md_send 85 = .ok (.iload 5, 2) := by decide +kernel
theorem d_Md_send_87 : decode b_Md_send 87 = .ok (.iastore, 1) := by decide +kernel
theorem d_Md_send_88 : decode b_Md_send 88 = .ok (.aload_n 0, 1) := by decide +kernel
theorem d_Md_send_89 : decode b_Md_send 89 = .ok (.getfield 80, 3) := by decide +kernel
theorem d_Md_send_92 : decode b_Md_send 92 = .ok (.iload 7, 2) := by decide +kernel
theorem d_Md_send_94 : decode b_Md_send 94 = .ok (.iconst 5, 1) := by decide +kernel
theorem d_Md_send_95 : decode b_Md_send 95 = .ok (.iadd, 1) := by decide +kernel
theorem d_Md_send_96 : decode b_Md_send 96 = .ok (.aload_n 0, 1) := by decide +kernel
theorem d_Md_send_97 : decode b_Md_send 97 = .ok (.getfield 23, 3) := by decide +kernel
theorem d_Md_send_100 : decode b_Md_send 100 = .ok (.iload 6, 2) := by decide +kernel
theorem d_Md_send_102 : decode b_Md_send 102 = .ok (.iaload, 1) := by decide +kernel
theorem d_Md_send_103 : decode b_Md_send 103 = .ok (.iastore, 1) := by decide +kernel
theorem d_Md_send_104 : decode b_Md_send 104 = .ok (.aload_n 0, 1) := by decide +kernel
theorem d_Md_send_105 : decode b_Md_send 105 = .ok (.getfield 80, 3) := by decide +kernel
theorem d_Md_send_108 : decode b_Md_send 108 = .ok (.iload 7, 2) := by decide +kernel
theorem d_Md_send_110 : decode b_Md_send 110 = .ok (.bipush 6, 2) := by decide +kernel
theorem d_Md_send_112 : decode b_Md_send 112 = .ok (.iadd, 1) := by decide +kernel
theorem d_Md_send_113 : decode b_Md_send 113 = .ok (.aload_n 0, 1) := by decide +kernel
theorem d_Md_send_114 : decode b_Md_send 114 = .ok (.getfield 26, 3) := by decide +kernel
theorem d_Md_send_117 : decode b_Md_send 117 = .ok (.iload 6, 2) := by decide +kernel
theorem d_Md_send_119 : decode b_Md_send 119 = .ok (.iaload, 1) := by decide +kernel
theorem d_Md_send_120 : decode b_Md_send 120 = .ok (.iastore, 1) := by decide +kernel
theorem d_Md_send_121 : decode b_Md_send 121 = .ok (.aload_n 0, 1) := by decide +kernel
theorem d_Md_send_122 : decode b_Md_send 122 = .ok (.getfield 80, 3) := by decide +kernel
theorem d_Md_send_125 : decode b_Md_send 125 = .ok (.iload 7, 2) := by decide +kernel
theorem d_Md_send_127 : decode b_Md_send 127 = .ok (.bipush 7, 2) := by decide +kernel
theorem d_Md_send_129 : decode b_Md_send 129 = .ok (.iadd, 1) := by decide +kernel
theorem d_Md_send_130 : decode b_Md_send 130 = .ok (.aload_n 0, 1) := by decide +kernel
theorem d_Md_send_131 : decode b_Md_send 131 = .ok (.getfield 29, 3) := by decide +kernel
theorem d_Md_send_134 : decode b_Md_send 134 = .ok (.iload 6, 2) := by decide +kernel
theorem d_Md_send_136 : decode b_Md_send 136 = .ok (.iaload, 1) := by decide +kernel
theorem d_Md_send_137 : decode b_Md_send 137 = .ok (.iastore, 1) := by decide +kernel
theorem d_Md_send_138 : decode b_Md_send 138 = .ok (.aload_n 0, 1) := by decide +kernel
theorem d_Md_send_139 : decode b_Md_send 139 = .ok (.getfield 80, 3) := by decide +kernel
theorem d_Md_send_142 : decode b_Md_send 142 = .ok (.iload 7, 2) := by decide +kernel
theorem d_Md_send_144 : decode b_Md_send 144 = .ok (.bipush 8, 2) := by decide +kernel
theorem d_Md_send_146 : decode b_Md_send 146 = .ok (.iadd, 1) := by decide +kernel
theorem d_Md_send_147 : decode b_Md_send 147 = .ok (.aload_n 0, 1) := by decide +kernel
theorem d_Md_send_148 : decode b_Md_send 148 = .ok (.getfield 32, 3) := by decide +kernel
theorem d_Md_send_151 : decode b_Md_send 151 = .ok (.iload 6, 2) := by decide +kernel
theorem d_Md_send_153 : decode b_Md_send 153 = .ok (.iaload, 1) := by decide +kernel
theorem d_Md_send_154 : decode b_Md_send 154 = .ok (.iastore, 1) := by decide +kernel
theorem d_Md_send_155 : decode b_Md_send 155 = .ok (.aload_n 0, 1) := by decide +kernel
theorem d_Md_send_156 : decode b_Md_send 156 = .ok (.getfield 80, 3) := by decide +kernel
theorem d_Md_send_159 : decode b_Md_send 159 = .ok (.iload 7, 2) := by decide +kernel
theorem d_Md_send_161 : decode b_Md_send 161 = .ok (.bipush 9, 2) := by decide +kernel
theorem d_Md_send_163 : decode b_Md_send 163 = .ok (.iadd, 1) := by decide +kernel
theorem d_Md_send_164 : decode b_Md_send 164 = .ok (.aload_n 0, 1) := by decide +kernel
theorem d_Md_send_165 : decode b_Md_send 165 = .ok (.getfield 20, 3) := by decide +kernel
theorem d_Md_send_168 : decode b_Md_send 168 = .ok (.iload 6, 2) := by decide +kernel
theorem d_Md_send_170 : decode b_Md_send 170 = .ok (.iaload, 1) := by decide +kernel
theorem d_Md_send_171 : decode b_Md_send 171 = .ok (.iastore, 1) := by decide +kernel
theorem d_Md_send_172 : decode b_Md_send 172 = .ok (.aload_n 0, 1) := by decide +kernel
theorem d_Md_send_173 : decode b_Md_send 173 = .ok (.getfield 80, 3) := by decide +kernel
theorem d_Md_send_176 : decode b_Md_send 176 = .ok (.iload 7, 2) := by decide +kernel
theorem d_Md_send_178 : decode b_Md_send 178 = .ok (.bipush 10, 2) := by decide +kernel
theorem d_Md_send_180 : decode b_Md_send 180 = .ok (.iadd, 1) := by decide +kernel
theorem d_Md_send_181 : decode b_Md_send 181 = .ok (.aload_n 0, 1) := by decide +kernel
theorem d_Md_send_182 : decode b_Md_send 182 = .ok (.getfield 38, 3) := by decide +kernel
theorem d_Md_send_185 : decode b_Md_send 185 = .ok (.iload 6, 2) := by decide +kernel
theorem d_Md_send_187 : decode b_Md_send 187 = .ok (.iaload, 1) := by decide +kernel
theorem d_Md_send_188 : decode b_Md_send 188 = .ok (.iastore, 1) := by decide +kernel
theorem d_Md_send_189 : decode b_Md_send 189 = .ok (.aload_n 0, 1) := by decide +kernel
theorem d_Md_send_190 : decode b_Md_send 190 = .ok (.dup, 1) := by decide +kernel
theorem d_Md_send_191 : decode b_Md_send 191 = .ok (.getfield 108, 3) := by decide +kernel
theorem d_Md_send_194 : decode b_Md_send 194 = .ok (.iconst 1, 1) := by decide +kernel
theorem d_Md_send_195 : decode b_Md_send 195 = .ok (.iadd, 1) := by decide +kernel
theorem d_Md_send_196 : decode b_Md_send 196 = .ok (.putfield 108, 3) := by decide +kernel
theorem d_Md_send_199 : decode b_Md_send 199 = .ok (.return_, 1) := by decide +kernel
theorem d_Md_sendAll_0 : decode b_Md_sendAll 0 = .ok (.iconst 0, 1) := by decide +kernel
theorem d_Md_sendAll_1 : decode b_Md_sendAll 1 = .ok (.istore 5, 2) := by decide +kernel
theorem d_Md_sendAll_3 : decode b_Md_sendAll 3 = .ok (.iload 5, 2) := by decide +kernel
theorem d_Md_sendAll_5 : decode b_Md_sendAll 5 = .ok (.aload_n 0, 1) := by decide +kernel
theorem d_Md_sendAll_6 : decode b_Md_sendAll 6 = .ok (.getfield 86, 3) := by decide +kernel
theorem d_Md_sendAll_9 : decode b_Md_sendAll 9 = .ok (.if_icmp .ge 26, 3) := by decide +kernel
theorem d_Md_sendAll_12 : decode b_Md_sendAll 12 = .ok (.iload 5, 2) := by decide +kernel
theorem d_Md_sendAll_14 : decode b_Md_sendAll 14 = .ok (.iload_n 2, 1) := by decide +kernel
theorem d_Md_sendAll_15 : decode b_Md_sendAll 15 = .ok (.if_icmp .eq 14, 3) := by decide +kernel
theorem d_Md_sendAll_18 : decode b_Md_sendAll 18 = .ok (.aload_n 0, 1) := by decide +kernel
theorem d_Md_sendAll_19 : decode b_Md_sendAll 19 = .ok (.iload_n 1, 1) := by decide +kernel
theorem d_Md_sendAll_20 : decode b_Md_sendAll 20 = .ok (.iload_n 2, 1) := by decide +kernel
theorem d_Md_sendAll_21 : decode b_Md_sendAll 21 = .ok (.iload 5, 2) := by decide +kernel
theorem d_Md_sendAll_23 : decode b_Md_sendAll 23 = .ok (.iload_n 3, 1) := by decide +kernel
theorem d_Md_sendAll_24 : decode b_Md_sendAll 24 = .ok (.iload 4, 2) := by decide +kernel
theorem d_Md_sendAll_26 : decode b_Md_sendAll 26 = .ok (.invokevirtual 114, 3) := by decide +kernel
theorem d_Md_sendAll_29 : decode b_Md_sendAll 29 = .ok (.iinc 5 1, 3) := by decide +kernel
theorem d_Md_sendAll_32 : decode b_Md_sendAll 32 = .ok (.goto (-29), 3) := by decide +kernel
theorem d_Md_sendAll_35 : decode b_Md_sendAll 35 = .ok (.return_, 1) := by decide +kernel
end
section
theorem d_Md_take_0 : decode b_Md_take 0 = .ok (.iconst 0, 1) := by decide +kernel
theorem d_Md_take_1 : decode b_Md_take 1 = .ok (.istore_n 2, 1) := by decide +kernel
theorem d_Md_take_2 : decode b_Md_take 2 = .ok (.iload_n 2, 1) := by decide +kernel
theorem d_Md_take_3 : decode b_Md_take 3 = .ok (.bipush 11, 2) := by decide +kernel
theorem d_Md_take_5 : decode b_Md_take 5 = .ok (.if_icmp .ge 30, 3) := by decide +kernel
theorem d_Md_take_8 : decode b_Md_take 8 = .ok (.aload_n 0, 1) := by decide +kernel
theorem d_Md_take_9 : decode b_Md_take 9 = .ok (.getfield 80, 3) := by decide +kernel
theorem d_Md_take_12 : decode b_Md_take 12 = .ok (.sipush 440, 3) := by decide +kernel
theorem d_Md_take_15 : decode b_Md_take 15 = .ok (.iload_n 2, 1) := by decide +kernel
theorem d_Md_take_16 : decode b_Md_take 16 = .ok (.iadd, 1) := by decide +kernel
theorem d_Md_take_17 : decode b_Md_take 17 = .ok (.aload_n 0, 1) := by decide +kernel
theorem d_Md_take_18 : decode b_Md_take 18 = .ok (.getfield 80, 3) := by decide +kernel
theorem d_Md_take_21 : decode b_Md_take 21 = .ok (.bipush 11, 2) := by decide +kernel
theorem d_Md_take_23 : decode b_Md_take 23 = .ok (.iload_n 1, 1) := by decide +kernel
theorem d_Md_take_24 : decode b_Md_take 24 = .ok (.imul, 1) := by decide +kernel
theorem d_Md_take_25 : decode b_Md_take 25 = .ok (.iload_n 2, 1) := by decide +kernel
theorem d_Md_take_26 : decode b_Md_take 26 = .ok (.iadd, 1) := by decide +kernel
theorem d_Md_take_27 : decode b_Md_take 27 = .ok (.iaload, 1) := by decide +kernel
theorem d_Md_take_28 : decode b_Md_take 28 = .ok (.iastore, 1) := by decide +kernel
theorem d_Md_take_29 : decode b_Md_take 29 = .ok (.iinc 2 1, 3) := by decide +kernel
theorem d_Md_take_32 : decode b_Md_take 32 = .ok (.goto (-30), 3) := by decide +kernel
theorem d_Md_take_35 : decode b_Md_take 35 = .ok (.bipush 11, 2) := by decide +kernel
theorem d_Md_take_37 : decode b_Md_take 37 = .ok (.iload_n 1, 1) := by decide +kernel
theorem d_Md_take_38 : decode b_Md_take 38 = .ok (.imul, 1) := by decide +kernel
theorem d_Md_take_39 : decode b_Md_take 39 = .ok (.istore_n 2, 1) := by decide +kernel
theorem d_Md_take_40 : decode b_Md_take 40 = .ok (.iload_n 2, 1) := by decide +kernel
theorem d_Md_take_41 : decode b_Md_take 41 = .ok (.bipush 11, 2) := by decide +kernel
theorem d_Md_take_43 : decode b_Md_take 43 = .ok (.iadd, 1) := by decide +kernel
theorem d_Md_take_44 : decode b_Md_take 44 = .ok (.bipush 11, 2) := by decide +kernel
theorem d_Md_take_46 : decode b_Md_take 46 = .ok (.aload_n 0, 1) := by decide +kernel
theorem d_Md_take_47 : decode b_Md_take 47 = .ok (.getfield 108, 3) := by decide +kernel
theorem d_Md_take_50 : decode b_Md_take 50 = .ok (.imul, 1) := by decide +kernel
theorem d_Md_take_51 : decode b_Md_take 51 = .ok (.if_icmp .ge 24, 3) := by decide +kernel
theorem d_Md_take_54 : decode b_Md_take 54 = .ok (.aload_n 0, 1) := by decide +kernel
theorem d_Md_take_55 : decode b_Md_take 55 = .ok (.getfield 80, 3) := by decide +kernel
theorem d_Md_take_58 : decode b_Md_take 58 = .ok (.iload_n 2, 1) := by decide +kernel
theorem d_Md_take_59 : decode b_Md_take 59 = .ok (.aload_n 0, 1) := by decide +kernel
theorem d_Md_take_60 : decode b_Md_take 60 = .ok (.getfield 80, 3) := by decide +kernel
theorem d_Md_take_63 : decode b_Md_take 63 = .ok (.iload_n 2, 1) := by decide +kernel
theorem d_Md_take_64 : decode b_Md_take 64 = .ok (.bipush 11, 2) := by decide +kernel
theorem d_Md_take_66 : decode b_Md_take 66 = .ok (.iadd, 1) := by decide +kernel
theorem d_Md_take_67 : decode b_Md_take 67 = .ok (.iaload, 1) := by decide +kernel
theorem d_Md_take_68 : decode b_Md_take 68 = .ok (.iastore, 1) := by decide +kernel
theorem d_Md_take_69 : decode b_Md_take 69 = .ok (.iinc 2 1, 3) := by decide +kernel
theorem d_Md_take_72 : decode b_Md_take 72 = .ok (.goto (-32), 3) := by decide +kernel
theorem d_Md_take_75 : decode b_Md_take 75 = .ok (.aload_n 0, 1) := by decide +kernel
theorem d_Md_take_76 : decode b_Md_take 76 = .ok (.dup, 1) := by decide +kernel
theorem d_Md_take_77 : decode b_Md_take 77 = .ok (.getfield 108, 3) := by decide +kernel
theorem d_Md_take_80 : decode b_Md_take 80 = .ok (.iconst 1, 1) := by decide +kernel
theorem d_Md_take_81 : decode b_Md_take 81 = .ok (.isub, 1) := by decide +kernel
theorem d_Md_take_82 : decode b_Md_take 82 = .ok (.putfield 108, 3) := by decide +kernel
theorem d_Md_take_85 : decode b_Md_take 85 = .ok (.return_, 1) := by decide +kernel
theorem d_Md_lose_0 : decode b_Md_lose 0 = .ok (.iload_n 1, 1) := by decide +kernel
theorem d_Md_lose_1 : decode b_Md_lose 1 = .ok (.ifCond .lt 11, 3) := by decide +kernel
theorem d_Md_lose_4 : decode b_Md_lose 4 = .ok (.iload_n 1, 1) := by decide +kernel
theorem d_Md_lose_5 : decode b_Md_lose 5 = .ok (.aload_n 0, 1) := by decide +kernel
theorem d_Md_lose_6 : decode b_Md_lose 6 = .ok (.getfield 108, 3) := by decide +kernel
theorem d_Md_lose_9 : decode b_Md_lose 9 = .ok (.if_icmp .lt 5, 3) := by decide +kernel
theorem d_Md_lose_12 : decode b_Md_lose 12 = .ok (.iconst 0, 1) := by decide +kernel
theorem d_Md_lose_13 : decode b_Md_lose 13 = .ok (.ireturn, 1) := by decide +kernel
theorem d_Md_lose_14 : decode b_Md_lose 14 = .ok (.aload_n 0, 1) := by decide +kernel
theorem d_Md_lose_15 : decode b_Md_lose 15 = .ok (.iload_n 1, 1) := by decide +kernel
theorem d_Md_lose_16 : decode b_Md_lose 16 = .ok (.invokevirtual 118, 3) := by decide +kernel
theorem d_Md_lose_19 : decode b_Md_lose 19 = .ok (.iconst 1, 1) := by decide +kernel
theorem d_Md_lose_20 : decode b_Md_lose 20 = .ok (.ireturn, 1) := by decide +kernel
theorem d_Md_preaccept_0 : decode b_Md_preaccept 0 = .ok (.bipush 30, 2) := by decide +kernel
theorem d_Md_preaccept_2 : decode b_Md_preaccept 2 = .ok (.iload_n 1, 1) := by decide +kernel
theorem d_Md_preaccept_3 : decode b_Md_preaccept 3 = .ok (.imul, 1) := by decide +kernel
theorem d_Md_preaccept_4 : decode b_Md_preaccept 4 = .ok (.iload_n 3, 1) := by decide +kernel
theorem d_Md_preaccept_5 : decode b_Md_preaccept 5 = .ok (.iadd, 1) := by decide +kernel
theorem d_Md_preaccept_6 : decode b_Md_preaccept 6 = .ok (.istore 4, 2) := by decide +kernel
theorem d_Md_preaccept_8 : decode b_Md_preaccept 8 = .ok (.aload_n 0, 1) := by decide +kernel
theorem d_Md_preaccept_9 : decode b_Md_preaccept 9 = .ok (.getfield 80, 3) := by decide +kernel
theorem d_Md_preaccept_12 : decode b_Md_preaccept 12 = .ok (.sipush 444, 3) := by decide +kernel
theorem d_Md_preaccept_15 : decode b_Md_preaccept 15 = .ok (.iaload, 1) := by decide +kernel
theorem d_Md_preaccept_16 : decode b_Md_preaccept 16 = .ok (.istore 5, 2) := by decide +kernel
theorem d_Md_preaccept_18 : decode b_Md_preaccept 18 = .ok (.iload 5, 2) := by decide +kernel
theorem d_Md_preaccept_20 : decode b_Md_preaccept 20 = .ok (.aload_n 0, 1) := by decide +kernel
theorem d_Md_preaccept_21 : decode b_Md_preaccept 21 = .ok (.getfield 35, 3) := by decide +kernel
theorem d_Md_preaccept_24 : decode b_Md_preaccept 24 = .ok (.iload 4, 2) := by decide +kernel
theorem d_Md_preaccept_26 : decode b_Md_preaccept 26 = .ok (.iaload, 1) := by decide +kernel
theorem d_Md_preaccept_27 : decode b_Md_preaccept 27 = .ok (.if_icmp .lt 26, 3) := by decide +kernel
theorem d_Md_preaccept_30 : decode b_Md_preaccept 30 = .ok (.aload_n 0, 1) := by decide +kernel
theorem d_Md_preaccept_31 : decode b_Md_preaccept 31 = .ok (.getfield 20, 3) := by decide +kernel
theorem d_Md_preaccept_34 : decode b_Md_preaccept 34 = .ok (.iload 4, 2) := by decide +kernel
theorem d_Md_preaccept_36 : decode b_Md_preaccept 36 = .ok (.iaload, 1) := by decide +kernel
theorem d_Md_preaccept_37 : decode b_Md_preaccept 37 = .ok (.iconst 2, 1) := by decide +kernel
theorem d_Md_preaccept_38 : decode b_Md_preaccept 38 = .ok (.if_icmp .ne 16, 3) := by decide +kernel
theorem d_Md_preaccept_41 : decode b_Md_preaccept 41 = .ok (.aload_n 0, 1) := by decide +kernel
theorem d_Md_preaccept_42 : decode b_Md_preaccept 42 = .ok (.getfield 38, 3) := by decide +kernel
theorem d_Md_preaccept_45 : decode b_Md_preaccept 45 = .ok (.iload 4, 2) := by decide +kernel
theorem d_Md_preaccept_47 : decode b_Md_preaccept 47 = .ok (.iaload, 1) := by decide +kernel
theorem d_Md_preaccept_48 : decode b_Md_preaccept 48 = .ok (.iload 5, 2) := by decide +kernel
theorem d_Md_preaccept_50 : decode b_Md_preaccept 50 = .ok (.if_icmp .ne 4, 3) := by decide +kernel
theorem d_Md_preaccept_53 : decode b_Md_preaccept 53 = .ok (.return_, 1) := by decide +kernel
theorem d_Md_preaccept_54 : decode b_Md_preaccept 54 = .ok (.aload_n 0, 1) := by decide +kernel
theorem d_Md_preaccept_55 : decode b_Md_preaccept 55 = .ok (.getfield 35, 3) := by decide +kernel
theorem d_Md_preaccept_58 : decode b_Md_preaccept 58 = .ok (.iload 4, 2) := by decide +kernel
theorem d_Md_preaccept_60 : decode b_Md_preaccept 60 = .ok (.iload 5, 2) := by decide +kernel
theorem d_Md_preaccept_62 : decode b_Md_preaccept 62 = .ok (.iastore, 1) := by decide +kernel
theorem d_Md_preaccept_63 : decode b_Md_preaccept 63 = .ok (.aload_n 0, 1) := by decide +kernel
theorem d_Md_preaccept_64 : decode b_Md_preaccept 64 = .ok (.getfield 38, 3) := by decide +kernel
theorem d_Md_preaccept_67 : decode b_Md_preaccept 67 = .ok (.iload 4, 2) := by decide +kernel
theorem d_Md_preaccept_69 : decode b_Md_preaccept 69 = .ok (.iload 5, 2) := by decide +kernel
theorem d_Md_preaccept_71 : decode b_Md_preaccept 71 = .ok (.iastore, 1) := by decide +kernel
theorem d_Md_preaccept_72 : decode b_Md_preaccept 72 = .ok (.aload_n 0, 1) := by decide +kernel
theorem d_Md_preaccept_73 : decode b_Md_preaccept 73 = .ok (.iload_n 1, 1) := by decide +kernel
theorem d_Md_preaccept_74 : decode b_Md_preaccept 74 = .ok (.iload_n 3, 1) := by decide +kernel
theorem d_Md_preaccept_75 : decode b_Md_preaccept 75 = .ok (.aload_n 0, 1) := by decide +kernel
theorem d_Md_preaccept_76 : decode b_Md_preaccept 76 = .ok (.getfield 80, 3) := by decide +kernel
theorem d_Md_preaccept_79 : decode b_Md_preaccept 79 = .ok (.sipush 445, 3) := by decide +kernel
theorem d_Md_preaccept_82 : decode b_Md_preaccept 82 = .ok (.iaload, 1) := by decide +kernel
theorem d_Md_preaccept_83 : decode b_Md_preaccept 83 = .ok (.aload_n 0, 1) := by decide +kernel
theorem d_Md_preaccept_84 : decode b_Md_preaccept 84 = .ok (.getfield 80, 3) := by decide +kernel
theorem d_Md_preaccept_87 : decode b_Md_preaccept 87 = .ok (.sipush 446, 3) := by decide +kernel
theorem d_Md_preaccept_90 : decode b_Md_preaccept 90 = .ok (.iaload, 1) := by decide +kernel
theorem d_Md_preaccept_91 : decode b_Md_preaccept 91 = .ok (.aload_n 0, 1) := by decide +kernel
theorem d_Md_preaccept_92 : decode b_Md_preaccept 92 = .ok (.getfield 80, 3) := by decide +kernel
theorem d_Md_preaccept_95 : decode b_Md_preaccept 95 = .ok (.sipush 447, 3) := by decide +kernel
theorem d_Md_preaccept_98 : decode b_Md_preaccept 98 = .ok (.iaload, 1) := by decide +kernel
theorem d_Md_preaccept_99 : decode b_Md_preaccept 99 = .ok (.aload_n 0, 1) := by decide +kernel
theorem d_Md_preaccept_100 : decode b_Md_preaccept 100 = .ok (.getfield 80, 3) := by decide +kernel
theorem d_Md_preaccept_103 : decode b_Md_preaccept 103 = .ok (.sipush 448, 3) := by decide +kernel
theorem d_Md_preaccept_106 : decode b_Md_preaccept 106 = .ok (.iaload, 1) := by decide +kernel
theorem d_Md_preaccept_107 : decode b_Md_preaccept 107 = .ok (.invokevirtual 151, 3) := by decide +kernel
theorem d_Md_preaccept_110 : decode b_Md_preaccept 110 = .ok (.aload_n 0, 1) := by decide +kernel
theorem d_Md_preaccept_111 : decode b_Md_preaccept 111 = .ok (.iconst 1, 1) := by decide +kernel
theorem d_Md_preaccept_112 : decode b_Md_preaccept 112 = .ok (.iload_n 1, 1) := by decide +kernel
theorem d_Md_preaccept_113 : decode b_Md_preaccept 113 = .ok (.iload_n 2, 1) := by decide +kernel
theorem d_Md_preaccept_114 : decode b_Md_preaccept 114 = .ok (.iload_n 3, 1) := by decide +kernel
theorem d_Md_preaccept_115 : decode b_Md_preaccept 115 = .ok (.iload 5, 2) := by decide +kernel
theorem d_Md_preaccept_117 : decode b_Md_preaccept 117 = .ok (.invokevirtual 114, 3) := by decide +kernel
theorem d_Md_preaccept_120 : decode b_Md_preaccept 120 = .ok (.return_, 1) := by decide +kernel
theorem d_Md_accept_0 : decode b_Md_accept 0 = .ok (.bipush 30, 2) := by decide +kernel
theorem d_Md_accept_2 : decode b_Md_accept 2 = .ok (.iload_n 1, 1) := by decide +kernel
theorem d_Md_accept_3 : decode b_Md_accept 3 = .ok (.imul, 1) := by decide +kernel
theorem d_Md_accept_4 : decode b_Md_accept 4 = .ok (.iload_n 3, 1) := by decide +kernel
theorem d_Md_accept_5 : decode b_Md_accept 5 = .ok (.iadd, 1) := by decide +kernel
theorem d_Md_accept_6 : decode b_Md_accept 6 = .ok (.istore 4, 2) := by decide +kernel
theorem d_Md_accept_8 : decode b_Md_accept 8 = .ok (.aload_n 0, 1) := by decide +kernel
theorem d_Md_accept_9 : decode b_Md_accept 9 = .ok (.getfield 80, 3) := by decide +kernel
theorem d_Md_accept_12 : decode b_Md_accept 12 = .ok (.sipush 444, 3) := by decide +kernel
theorem d_Md_accept_15 : decode b_Md_accept 15 = .ok (.iaload, 1) := by decide +kernel
theorem d_Md_accept_16 : decode b_Md_accept 16 = .ok (.istore 5, 2) := by decide +kernel
theorem d_Md_accept_18 : decode b_Md_accept 18 = .ok (.iload 5, 2) := by decide +kernel
theorem d_Md_accept_20 : decode b_Md_accept 20 = .ok (.aload_n 0, 1) := by decide +kernel
theorem d_Md_accept_21 : decode b_Md_accept 21 = .ok (.getfield 35, 3) := by decide +kernel
theorem d_Md_accept_24 : decode b_Md_accept 24 = .ok (.iload 4, 2) := by decide +kernel
theorem d_Md_accept_26 : decode b_Md_accept 26 = .ok (.iaload, 1) := by decide +kernel
theorem d_Md_accept_27 : decode b_Md_accept 27 = .ok (.if_icmp .ge 4, 3) := by decide +kernel
theorem d_Md_accept_30 : decode b_Md_accept 30 = .ok (.return_, 1) := by decide +kernel
theorem d_Md_accept_31 : decode b_Md_accept 31 = .ok (.aload_n 0, 1) := by decide +kernel
theorem d_Md_accept_32 : decode b_Md_accept 32 = .ok (.getfield 35, 3) := by decide +kernel
theorem d_Md_accept_35 : decode b_Md_accept 35 = .ok (.iload 4, 2) := by decide +kernel
theorem d_Md_accept_37 : decode b_Md_accept 37 = .ok (.iload 5, 2) := by decide +kernel
theorem d_Md_accept_39 : decode b_Md_accept 39 = .ok (.iastore, 1) := by decide +kernel
theorem d_Md_accept_40 : decode b_Md_accept 40 = .ok (.aload_n 0, 1) := by decide +kernel
theorem d_Md_accept_41 : decode b_Md_accept 41 = .ok (.getfield 38, 3) := by decide +kernel
theorem d_Md_accept_44 : decode b_Md_accept 44 = .ok (.iload 4, 2) := by decide +kernel
theorem d_Md_accept_46 : decode b_Md_accept 46 = .ok (.iload 5, 2) := by decide +kernel
theorem d_Md_accept_48 : decode b_Md_accept 48 = .ok (.iastore, 1) := by decide +kernel
theorem d_Md_accept_49 : decode b_Md_accept 49 = .ok (.aload_n 0, 1) := by decide +kernel
theorem d_Md_accept_50 : decode b_Md_accept 50 = .ok (.iload 4, 2) := by decide +kernel
theorem d_Md_accept_52 : decode b_Md_accept 52 = .ok (.iconst 2, 1) := by decide +kernel
theorem d_Md_accept_53 : decode b_Md_accept 53 = .ok (.aload_n 0, 1) := by decide +kernel
theorem d_Md_accept_54 : decode b_Md_accept 54 = .ok (.getfield 80, 3) := by decide +kernel
theorem d_Md_accept_57 : decode b_Md_accept 57 = .ok (.sipush 445, 3) := by decide +kernel
theorem d_Md_accept_60 : decode b_Md_accept 60 = .ok (.iaload, 1) := by decide +kernel
theorem d_Md_accept_61 : decode b_Md_accept 61 = .ok (.aload_n 0, 1) := by decide +kernel
theorem d_Md_accept_62 : decode b_Md_accept 62 = .ok (.getfield 80, 3) := by decide +kernel
theorem d_Md_accept_65 : decode b_Md_accept 65 = .ok (.sipush 446, 3) := by decide +kernel
theorem d_Md_accept_68 : decode b_Md_accept 68 = .ok (.iaload, 1) := by decide +kernel
theorem d_Md_accept_69 : decode b_Md_accept 69 = .ok (.invokevirtual 104, 3) := by decide +kernel
theorem d_Md_accept_72 : decode b_Md_accept 72 = .ok (.aload_n 0, 1) := by decide +kernel
theorem d_Md_accept_73 : decode b_Md_accept 73 = .ok (.getfield 29, 3) := by decide +kernel
theorem d_Md_accept_76 : decode b_Md_accept 76 = .ok (.iload 4, 2) := by decide +kernel
theorem d_Md_accept_78 : decode b_Md_accept 78 = .ok (.aload_n 0, 1) := by decide +kernel
theorem d_Md_accept_79 : decode b_Md_accept 79 = .ok (.getfield 80, 3) := by decide +kernel
theorem d_Md_accept_82 : decode b_Md_accept 82 = .ok (.sipush 447, 3) := by decide +kernel
theorem d_Md_accept_85 : decode b_Md_accept 85 = .ok (.iaload, 1) := by decide +kernel
theorem d_Md_accept_86 : decode b_Md_accept 86 = .ok (.iastore, 1) := by decide +kernel
theorem d_Md_accept_87 : decode b_Md_accept 87 = .ok (.aload_n 0, 1) := by decide +kernel
theorem d_Md_accept_88 : decode b_Md_accept 88 = .ok (.getfield 32, 3) := by decide +kernel
theorem d_Md_accept_91 : decode b_Md_accept 91 = .ok (.iload 4, 2) := by decide +kernel
theorem d_Md_accept_93 : decode b_Md_accept 93 = .ok (.aload_n 0, 1) := by decide +kernel
theorem d_Md_accept_94 : decode b_Md_accept 94 = .ok (.getfield 80, 3) := by decide +kernel
theorem d_Md_accept_97 : decode b_Md_accept 97 = .ok (.sipush 448, 3) := by decide +kernel
theorem d_Md_accept_100 : decode b_Md_accept 100 = .ok (.iaload, 1) := by decide +kernel
theorem d_Md_accept_101 : decode b_Md_accept 101 = .ok (.iastore, 1) := by decide +kernel
theorem d_Md_accept_102 : decode b_Md_accept 102 = .ok (.aload_n 0, 1) := by decide +kernel
theorem d_Md_accept_103 : decode b_Md_accept 103 = .ok (.iconst 3, 1) := by decide +kernel
theorem d_Md_accept_104 : decode b_Md_accept 104 = .ok (.iload_n 1, 1) := by decide +kernel
theorem d_Md_accept_105 : decode b_Md_accept 105 = .ok (.iload_n 2, 1) := by decide +kernel
theorem d_Md_accept_106 : decode b_Md_accept 106 = .ok (.iload_n 3, 1) := by decide +kernel
theorem d_Md_accept_107 : decode b_Md_accept 107 = .ok (.iload 5, 2) := by decide +kernel
theorem d_Md_accept_109 : decode b_Md_accept 109 = .ok (.invokevirtual 114, 3) := by decide +kernel
theorem d_Md_accept_112 : decode b_Md_accept 112 = .ok (.return_, 1) := by decide +kernel
theorem d_Md_asked_0 : decode b_Md_asked 0 = .ok (.bipush 30, 2) := by decide +kernel
theorem d_Md_asked_2 : decode b_Md_asked 2 = .ok (.iload_n 1, 1) := by decide +kernel
theorem d_Md_asked_3 : decode b_Md_asked 3 = .ok (.imul, 1) := by decide +kernel
theorem d_Md_asked_4 : decode b_Md_asked 4 = .ok (.iload_n 3, 1) := by decide +kernel
theorem d_Md_asked_5 : decode b_Md_asked 5 = .ok (.iadd, 1) := by decide +kernel
theorem d_Md_asked_6 : decode b_Md_asked 6 = .ok (.istore 4, 2) := by decide +kernel
theorem d_Md_asked_8 : decode b_Md_asked 8 = .ok (.aload_n 0, 1) := by decide +kernel
theorem d_Md_asked_9 : decode b_Md_asked 9 = .ok (.getfield 80, 3) := by decide +kernel
theorem d_Md_asked_12 : decode b_Md_asked 12 = .ok (.sipush 444, 3) := by decide +kernel
theorem d_Md_asked_15 : decode b_Md_asked 15 = .ok (.iaload, 1) := by decide +kernel
theorem d_Md_asked_16 : decode b_Md_asked 16 = .ok (.istore 5, 2) := by decide +kernel
theorem d_Md_asked_18 : decode b_Md_asked 18 = .ok (.iload 5, 2) := by decide +kernel
theorem d_Md_asked_20 : decode b_Md_asked 20 = .ok (.aload_n 0, 1) := by decide +kernel
theorem d_Md_asked_21 : decode b_Md_asked 21 = .ok (.getfield 35, 3) := by decide +kernel
theorem d_Md_asked_24 : decode b_Md_asked 24 = .ok (.iload 4, 2) := by decide +kernel
theorem d_Md_asked_26 : decode b_Md_asked 26 = .ok (.iaload, 1) := by decide +kernel
theorem d_Md_asked_27 : decode b_Md_asked 27 = .ok (.if_icmp .gt 4, 3) := by decide +kernel
theorem d_Md_asked_30 : decode b_Md_asked 30 = .ok (.return_, 1) := by decide +kernel
theorem d_Md_asked_31 : decode b_Md_asked 31 = .ok (.aload_n 0, 1) := by decide +kernel
theorem d_Md_asked_32 : decode b_Md_asked 32 = .ok (.getfield 35, 3) := by decide +kernel
theorem d_Md_asked_35 : decode b_Md_asked 35 = .ok (.iload 4, 2) := by decide +kernel
theorem d_Md_asked_37 : decode b_Md_asked 37 = .ok (.iload 5, 2) := by decide +kernel
theorem d_Md_asked_39 : decode b_Md_asked 39 = .ok (.iastore, 1) := by decide +kernel
theorem d_Md_asked_40 : decode b_Md_asked 40 = .ok (.aload_n 0, 1) := by decide +kernel
theorem d_Md_asked_41 : decode b_Md_asked 41 = .ok (.bipush 6, 2) := by decide +kernel
theorem d_Md_asked_43 : decode b_Md_asked 43 = .ok (.iload_n 1, 1) := by decide +kernel
theorem d_Md_asked_44 : decode b_Md_asked 44 = .ok (.iload_n 2, 1) := by decide +kernel
theorem d_Md_asked_45 : decode b_Md_asked 45 = .ok (.iload_n 3, 1) := by decide +kernel
theorem d_Md_asked_46 : decode b_Md_asked 46 = .ok (.iload 5, 2) := by decide +kernel
theorem d_Md_asked_48 : decode b_Md_asked 48 = .ok (.invokevirtual 114, 3) := by decide +kernel
theorem d_Md_asked_51 : decode b_Md_asked 51 = .ok (.return_, 1) := by decide +kernel
theorem d_Md_settle_0 : decode b_Md_settle 0 = .ok (.aload_n 0, 1) := by decide +kernel
theorem d_Md_settle_1 : decode b_Md_settle 1 = .ok (.iload_n 1, 1) := by decide +kernel
theorem d_Md_settle_2 : decode b_Md_settle 2 = .ok (.iconst 3, 1) := by decide +kernel
theorem d_Md_settle_3 : decode b_Md_settle 3 = .ok (.aload_n 0, 1) := by decide +kernel
theorem d_Md_settle_4 : decode b_Md_settle 4 = .ok (.getfield 80, 3) := by decide +kernel
theorem d_Md_settle_7 : decode b_Md_settle 7 = .ok (.sipush 445, 3) := by decide +kernel
theorem d_Md_settle_10 : decode b_Md_settle 10 = .ok (.iaload, 1) := by decide +kernel
theorem d_Md_settle_11 : decode b_Md_settle 11 = .ok (.aload_n 0, 1) := by decide +kernel
theorem d_Md_settle_12 : decode b_Md_settle 12 = .ok (.getfield 80, 3) := by decide +kernel
theorem d_Md_settle_15 : decode b_Md_settle 15 = .ok (.sipush 446, 3) := by decide +kernel
theorem d_Md_settle_18 : decode b_Md_settle 18 = .ok (.iaload, 1) := by decide +kernel
theorem d_Md_settle_19 : decode b_Md_settle 19 = .ok (.invokevirtual 104, 3) := by decide +kernel
theorem d_Md_settle_22 : decode b_Md_settle 22 = .ok (.aload_n 0, 1) := by decide +kernel
theorem d_Md_settle_23 : decode b_Md_settle 23 = .ok (.getfield 29, 3) := by decide +kernel
theorem d_Md_settle_26 : decode b_Md_settle 26 = .ok (.iload_n 1, 1) := by decide +kernel
theorem d_Md_settle_27 : decode b_Md_settle 27 = .ok (.aload_n 0, 1) := by decide +kernel
theorem d_Md_settle_28 : decode b_Md_settle 28 = .ok (.getfield 80, 3) := by decide +kernel
theorem d_Md_settle_31 : decode b_Md_settle 31 = .ok (.sipush 447, 3) := by decide +kernel
theorem d_Md_settle_34 : decode b_Md_settle 34 = .ok (.iaload, 1) := by decide +kernel
theorem d_Md_settle_35 : decode b_Md_settle 35 = .ok (.iastore, 1) := by decide +kernel
theorem d_Md_settle_36 : decode b_Md_settle 36 = .ok (.aload_n 0, 1) := by decide +kernel
theorem d_Md_settle_37 : decode b_Md_settle 37 = .ok (.getfield 32, 3) := by decide +kernel
theorem d_Md_settle_40 : decode b_Md_settle 40 = .ok (.iload_n 1, 1) := by decide +kernel
theorem d_Md_settle_41 : decode b_Md_settle 41 = .ok (.aload_n 0, 1) := by decide +kernel
theorem d_Md_settle_42 : decode b_Md_settle 42 = .ok (.getfield 80, 3) := by decide +kernel
theorem d_Md_settle_45 : decode b_Md_settle 45 = .ok (.sipush 448, 3) := by decide +kernel
theorem d_Md_settle_48 : decode b_Md_settle 48 = .ok (.iaload, 1) := by decide +kernel
theorem d_Md_settle_49 : decode b_Md_settle 49 = .ok (.iastore, 1) := by decide +kernel
theorem d_Md_settle_50 : decode b_Md_settle 50 = .ok (.return_, 1) := by decide +kernel
theorem d_Md_counts_0 : decode b_Md_counts 0 = .ok (.aload_n 0, 1) := by decide +kernel
theorem d_Md_counts_1 : decode b_Md_counts 1 = .ok (.getfield 80, 3) := by decide +kernel
theorem d_Md_counts_4 : decode b_Md_counts 4 = .ok (.sipush 444, 3) := by decide +kernel
theorem d_Md_counts_7 : decode b_Md_counts 7 = .ok (.iaload, 1) := by decide +kernel
theorem d_Md_counts_8 : decode b_Md_counts 8 = .ok (.istore_n 3, 1) := by decide +kernel
theorem d_Md_counts_9 : decode b_Md_counts 9 = .ok (.aload_n 0, 1) := by decide +kernel
theorem d_Md_counts_10 : decode b_Md_counts 10 = .ok (.getfield 47, 3) := by decide +kernel
theorem d_Md_counts_13 : decode b_Md_counts 13 = .ok (.iload_n 1, 1) := by decide +kernel
theorem d_Md_counts_14 : decode b_Md_counts 14 = .ok (.baload, 1) := by decide +kernel
theorem d_Md_counts_15 : decode b_Md_counts 15 = .ok (.ifCond .eq 32, 3) := by decide +kernel
theorem d_Md_counts_18 : decode b_Md_counts 18 = .ok (.aload_n 0, 1) := by decide +kernel
theorem d_Md_counts_19 : decode b_Md_counts 19 = .ok (.getfield 53, 3) := by decide +kernel
theorem d_Md_counts_22 : decode b_Md_counts 22 = .ok (.iload_n 1, 1) := by decide +kernel
theorem d_Md_counts_23 : decode b_Md_counts 23 = .ok (.iaload, 1) := by decide +kernel
theorem d_Md_counts_24 : decode b_Md_counts 24 = .ok (.aload_n 0, 1) := by decide +kernel
theorem d_Md_counts_25 : decode b_Md_counts 25 = .ok (.getfield 35, 3) := by decide +kernel
theorem d_Md_counts_28 : decode b_Md_counts 28 = .ok (.iload_n 1, 1) := by decide +kernel
theorem d_Md_counts_29 : decode b_Md_counts 29 = .ok (.iaload, 1) := by decide +kernel
theorem d_Md_counts_30 : decode b_Md_counts 30 = .ok (.if_icmp .ne 17, 3) := by decide +kernel
theorem d_Md_counts_33 : decode b_Md_counts 33 = .ok (.aload_n 0, 1) := by decide +kernel
theorem d_Md_counts_34 : decode b_Md_counts 34 = .ok (.getfield 20, 3) := by decide +kernel
theorem d_Md_counts_37 : decode b_Md_counts 37 = .ok (.iload_n 1, 1) := by decide +kernel
theorem d_Md_counts_38 : decode b_Md_counts 38 = .ok (.iaload, 1) := by decide +kernel
theorem d_Md_counts_39 : decode b_Md_counts 39 = .ok (.iconst 3, 1) := by decide +kernel
theorem d_Md_counts_40 : decode b_Md_counts 40 = .ok (.if_icmp .ge 7, 3) := by decide +kernel
theorem d_Md_counts_43 : decode b_Md_counts 43 = .ok (.iconst 1, 1) := by decide +kernel
theorem d_Md_counts_44 : decode b_Md_counts 44 = .ok (.goto 4, 3) := by decide +kernel
theorem d_Md_counts_47 : decode b_Md_counts 47 = .ok (.iconst 0, 1) := by decide +kernel
theorem d_Md_counts_48 : decode b_Md_counts 48 = .ok (.istore 4, 2) := by decide +kernel
theorem d_Md_counts_50 : decode b_Md_counts 50 = .ok (.aload_n 0, 1) := by decide +kernel
theorem d_Md_counts_51 : decode b_Md_counts 51 = .ok (.getfield 50, 3) := by decide +kernel
theorem d_Md_counts_54 : decode b_Md_counts 54 = .ok (.iload_n 1, 1) := by decide +kernel
theorem d_Md_counts_55 : decode b_Md_counts 55 = .ok (.iaload, 1) := by decide +kernel
theorem d_Md_counts_56 : decode b_Md_counts 56 = .ok (.iload_n 2, 1) := by decide +kernel
theorem d_Md_counts_57 : decode b_Md_counts 57 = .ok (.if_icmp .eq 17, 3) := by decide +kernel
theorem d_Md_counts_60 : decode b_Md_counts 60 = .ok (.iload_n 2, 1) := by decide +kernel
theorem d_Md_counts_61 : decode b_Md_counts 61 = .ok (.iconst 1, 1) := by decide +kernel
theorem d_Md_counts_62 : decode b_Md_counts 62 = .ok (.if_icmp .ne 16, 3) := by decide +kernel
theorem d_Md_counts_65 : decode b_Md_counts 65 = .ok (.aload_n 0, 1) := by decide +kernel
theorem d_Md_counts_66 : decode b_Md_counts 66 = .ok (.getfield 50, 3) := by decide +kernel
theorem d_Md_counts_69 : decode b_Md_counts 69 = .ok (.iload_n 1, 1) := by decide +kernel
theorem d_Md_counts_70 : decode b_Md_counts 70 = .ok (.iaload, 1) := by decide +kernel
theorem d_Md_counts_71 : decode b_Md_counts 71 = .ok (.ifCond .ne 7, 3) := by decide +kernel
theorem d_Md_counts_74 : decode b_Md_counts 74 = .ok (.iconst 1, 1) := by decide +kernel
theorem d_Md_counts_75 : decode b_Md_counts 75 = .ok (.goto 4, 3) := by decide +kernel
theorem d_Md_counts_78 : decode b_Md_counts 78 = .ok (.iconst 0, 1) := by decide +kernel
theorem d_Md_counts_79 : decode b_Md_counts 79 = .ok (.istore 5, 2) := by decide +kernel
theorem d_Md_counts_81 : decode b_Md_counts 81 = .ok (.iload 4, 2) := by decide +kernel
theorem d_Md_counts_83 : decode b_Md_counts 83 = .ok (.ifCond .eq 28, 3) := by decide +kernel
theorem d_Md_counts_86 : decode b_Md_counts 86 = .ok (.iload 5, 2) := by decide +kernel
theorem d_Md_counts_88 : decode b_Md_counts 88 = .ok (.ifCond .eq 23, 3) := by decide +kernel
theorem d_Md_counts_91 : decode b_Md_counts 91 = .ok (.aload_n 0, 1) := by decide +kernel
theorem d_Md_counts_92 : decode b_Md_counts 92 = .ok (.getfield 53, 3) := by decide +kernel
theorem d_Md_counts_95 : decode b_Md_counts 95 = .ok (.iload_n 1, 1) := by decide +kernel
theorem d_Md_counts_96 : decode b_Md_counts 96 = .ok (.iaload, 1) := by decide +kernel
theorem d_Md_counts_97 : decode b_Md_counts 97 = .ok (.iload_n 3, 1) := by decide +kernel
theorem d_Md_counts_98 : decode b_Md_counts 98 = .ok (.if_icmp .ne 13, 3) := by decide +kernel
theorem d_Md_counts_101 : decode b_Md_counts 101 = .ok (.aload_n 0, 1) := by decide +kernel
theorem d_Md_counts_102 : decode b_Md_counts 102 = .ok (.getfield 56, 3) := by decide +kernel
theorem d_Md_counts_105 : decode b_Md_counts 105 = .ok (.iload_n 1, 1) := by decide +kernel
theorem d_Md_counts_106 : decode b_Md_counts 106 = .ok (.iaload, 1) := by decide +kernel
theorem d_Md_counts_107 : decode b_Md_counts 107 = .ok (.iconst 3, 1) := by decide +kernel
theorem d_Md_counts_108 : decode b_Md_counts 108 = .ok (.if_icmp .le 5, 3) := by decide +kernel
theorem d_Md_counts_111 : decode b_Md_counts 111 = .ok (.iconst 0, 1) := by decide +kernel
theorem d_Md_counts_112 : decode b_Md_counts 112 = .ok (.ireturn, 1) := by decide +kernel
theorem d_Md_counts_113 : decode b_Md_counts 113 = .ok (.iconst 4, 1) := by decide +kernel
theorem d_Md_counts_114 : decode b_Md_counts 114 = .ok (.iload_n 1, 1) := by decide +kernel
theorem d_Md_counts_115 : decode b_Md_counts 115 = .ok (.imul, 1) := by decide +kernel
theorem d_Md_counts_116 : decode b_Md_counts 116 = .ok (.aload_n 0, 1) := by decide +kernel
theorem d_Md_counts_117 : decode b_Md_counts 117 = .ok (.getfield 56, 3) := by decide +kernel
theorem d_Md_counts_120 : decode b_Md_counts 120 = .ok (.iload_n 1, 1) := by decide +kernel
theorem d_Md_counts_121 : decode b_Md_counts 121 = .ok (.iaload, 1) := by decide +kernel
theorem d_Md_counts_122 : decode b_Md_counts 122 = .ok (.iadd, 1) := by decide +kernel
theorem d_Md_counts_123 : decode b_Md_counts 123 = .ok (.istore 6, 2) := by decide +kernel
theorem d_Md_counts_125 : decode b_Md_counts 125 = .ok (.aload_n 0, 1) := by decide +kernel
theorem d_Md_counts_126 : decode b_Md_counts 126 = .ok (.getfield 59, 3) := by decide +kernel
theorem d_Md_counts_129 : decode b_Md_counts 129 = .ok (.iload 6, 2) := by decide +kernel
theorem d_Md_counts_131 : decode b_Md_counts 131 = .ok (.aload_n 0, 1) := by decide +kernel
theorem d_Md_counts_132 : decode b_Md_counts 132 = .ok (.getfield 80, 3) := by decide +kernel
theorem d_Md_counts_135 : decode b_Md_counts 135 = .ok (.sipush 441, 3) := by decide +kernel
theorem d_Md_counts_138 : decode b_Md_counts 138 = .ok (.iaload, 1) := by decide +kernel
theorem d_Md_counts_139 : decode b_Md_counts 139 = .ok (.iastore, 1) := by decide +kernel
theorem d_Md_counts_140 : decode b_Md_counts 140 = .ok (.aload_n 0, 1) := by decide +kernel
theorem d_Md_counts_141 : decode b_Md_counts 141 = .ok (.getfield 65, 3) := by decide +kernel
theorem d_Md_counts_144 : decode b_Md_counts 144 = .ok (.iload 6, 2) := by decide +kernel
theorem d_Md_counts_146 : decode b_Md_counts 146 = .ok (.aload_n 0, 1) := by decide +kernel
theorem d_Md_counts_147 : decode b_Md_counts 147 = .ok (.getfield 80, 3) := by decide +kernel
theorem d_Md_counts_150 : decode b_Md_counts 150 = .ok (.sipush 445, 3) := by decide +kernel
theorem d_Md_counts_153 : decode b_Md_counts 153 = .ok (.iaload, 1) := by decide +kernel
theorem d_Md_counts_154 : decode b_Md_counts 154 = .ok (.iastore, 1) := by decide +kernel
theorem d_Md_counts_155 : decode b_Md_counts 155 = .ok (.aload_n 0, 1) := by decide +kernel
theorem d_Md_counts_156 : decode b_Md_counts 156 = .ok (.getfield 68, 3) := by decide +kernel
theorem d_Md_counts_159 : decode b_Md_counts 159 = .ok (.iload 6, 2) := by decide +kernel
theorem d_Md_counts_161 : decode b_Md_counts 161 = .ok (.aload_n 0, 1) := by decide +kernel
theorem d_Md_counts_162 : decode b_Md_counts 162 = .ok (.getfield 80, 3) := by decide +kernel
theorem d_Md_counts_165 : decode b_Md_counts 165 = .ok (.sipush 446, 3) := by decide +kernel
theorem d_Md_counts_168 : decode b_Md_counts 168 = .ok (.iaload, 1) := by decide +kernel
theorem d_Md_counts_169 : decode b_Md_counts 169 = .ok (.iastore, 1) := by decide +kernel
theorem d_Md_counts_170 : decode b_Md_counts 170 = .ok (.aload_n 0, 1) := by decide +kernel
theorem d_Md_counts_171 : decode b_Md_counts 171 = .ok (.getfield 71, 3) := by decide +kernel
theorem d_Md_counts_174 : decode b_Md_counts 174 = .ok (.iload 6, 2) := by decide +kernel
theorem d_Md_counts_176 : decode b_Md_counts 176 = .ok (.aload_n 0, 1) := by decide +kernel
theorem d_Md_counts_177 : decode b_Md_counts 177 = .ok (.getfield 80, 3) := by decide +kernel
theorem d_Md_counts_180 : decode b_Md_counts 180 = .ok (.sipush 447, 3) := by decide +kernel
theorem d_Md_counts_183 : decode b_Md_counts 183 = .ok (.iaload, 1) := by decide +kernel
theorem d_Md_counts_184 : decode b_Md_counts 184 = .ok (.iastore, 1) := by decide +kernel
theorem d_Md_counts_185 : decode b_Md_counts 185 = .ok (.aload_n 0, 1) := by decide +kernel
theorem d_Md_counts_186 : decode b_Md_counts 186 = .ok (.getfield 74, 3) := by decide +kernel
theorem d_Md_counts_189 : decode b_Md_counts 189 = .ok (.iload 6, 2) := by decide +kernel
theorem d_Md_counts_191 : decode b_Md_counts 191 = .ok (.aload_n 0, 1) := by decide +kernel
theorem d_Md_counts_192 : decode b_Md_counts 192 = .ok (.getfield 80, 3) := by decide +kernel
theorem d_Md_counts_195 : decode b_Md_counts 195 = .ok (.sipush 448, 3) := by decide +kernel
theorem d_Md_counts_198 : decode b_Md_counts 198 = .ok (.iaload, 1) := by decide +kernel
theorem d_Md_counts_199 : decode b_Md_counts 199 = .ok (.iastore, 1) := by decide +kernel
theorem d_Md_counts_200 : decode b_Md_counts 200 = .ok (.aload_n 0, 1) := by decide +kernel
theorem d_Md_counts_201 : decode b_Md_counts 201 = .ok (.getfield 62, 3) := by decide +kernel
theorem d_Md_counts_204 : decode b_Md_counts 204 = .ok (.iload 6, 2) := by decide +kernel
theorem d_Md_counts_206 : decode b_Md_counts 206 = .ok (.aload_n 0, 1) := by decide +kernel
theorem d_Md_counts_207 : decode b_Md_counts 207 = .ok (.getfield 80, 3) := by decide +kernel
theorem d_Md_counts_210 : decode b_Md_counts 210 = .ok (.sipush 449, 3) := by decide +kernel
theorem d_Md_counts_213 : decode b_Md_counts 213 = .ok (.iaload, 1) := by decide +kernel
theorem d_Md_counts_214 : decode b_Md_counts 214 = .ok (.iastore, 1) := by decide +kernel
theorem d_Md_counts_215 : decode b_Md_counts 215 = .ok (.aload_n 0, 1) := by decide +kernel
theorem d_Md_counts_216 : decode b_Md_counts 216 = .ok (.getfield 77, 3) := by decide +kernel
theorem d_Md_counts_219 : decode b_Md_counts 219 = .ok (.iload 6, 2) := by decide +kernel
theorem d_Md_counts_221 : decode b_Md_counts 221 = .ok (.aload_n 0, 1) := by decide +kernel
theorem d_Md_counts_222 : decode b_Md_counts 222 = .ok (.getfield 80, 3) := by decide +kernel
theorem d_Md_counts_225 : decode b_Md_counts 225 = .ok (.sipush 450, 3) := by decide +kernel
theorem d_Md_counts_228 : decode b_Md_counts 228 = .ok (.iaload, 1) := by decide +kernel
theorem d_Md_counts_229 : decode b_Md_counts 229 = .ok (.iastore, 1) := by decide +kernel
theorem d_Md_counts_230 : decode b_Md_counts 230 = .ok (.aload_n 0, 1) := by decide +kernel
theorem d_Md_counts_231 : decode b_Md_counts 231 = .ok (.getfield 56, 3) := by decide +kernel
theorem d_Md_counts_234 : decode b_Md_counts 234 = .ok (.iload_n 1, 1) := by decide +kernel
theorem d_Md_counts_235 : decode b_Md_counts 235 = .ok (.dup2, 1) := by decide +kernel
theorem d_Md_counts_236 : decode b_Md_counts 236 = .ok (.iaload, 1) := by decide +kernel
theorem d_Md_counts_237 : decode b_Md_counts 237 = .ok (.iconst 1, 1) := by decide +kernel
theorem d_Md_counts_238 : decode b_Md_counts 238 = .ok (.iadd, 1) := by decide +kernel
theorem d_Md_counts_239 : decode b_Md_counts 239 = .ok (.iastore, 1) := by decide +kernel
theorem d_Md_counts_240 : decode b_Md_counts 240 = .ok (.iconst 1, 1) := by decide +kernel
theorem d_Md_counts_241 : decode b_Md_counts 241 = .ok (.ireturn, 1) := by decide +kernel
theorem d_Md_finish_0 : decode b_Md_finish 0 = .ok (.bipush 30, 2) := by decide +kernel
theorem d_Md_finish_2 : decode b_Md_finish 2 = .ok (.iload_n 1, 1) := by decide +kernel
theorem d_Md_finish_3 : decode b_Md_finish 3 = .ok (.imul, 1) := by decide +kernel
theorem d_Md_finish_4 : decode b_Md_finish 4 = .ok (.iload_n 2, 1) := by decide +kernel
theorem d_Md_finish_5 : decode b_Md_finish 5 = .ok (.iadd, 1) := by decide +kernel
theorem d_Md_finish_6 : decode b_Md_finish 6 = .ok (.istore 5, 2) := by decide +kernel
theorem d_Md_finish_8 : decode b_Md_finish 8 = .ok (.aload_n 0, 1) := by decide +kernel
theorem d_Md_finish_9 : decode b_Md_finish 9 = .ok (.getfield 20, 3) := by decide +kernel
theorem d_Md_finish_12 : decode b_Md_finish 12 = .ok (.iload 5, 2) := by decide +kernel
theorem d_Md_finish_14 : decode b_Md_finish 14 = .ok (.iconst 3, 1) := by decide +kernel
theorem d_Md_finish_15 : decode b_Md_finish 15 = .ok (.iastore, 1) := by decide +kernel
theorem d_Md_finish_16 : decode b_Md_finish 16 = .ok (.aload_n 0, 1) := by decide +kernel
theorem d_Md_finish_17 : decode b_Md_finish 17 = .ok (.getfield 29, 3) := by decide +kernel
theorem d_Md_finish_20 : decode b_Md_finish 20 = .ok (.iload 5, 2) := by decide +kernel
theorem d_Md_finish_22 : decode b_Md_finish 22 = .ok (.iload_n 3, 1) := by decide +kernel
theorem d_Md_finish_23 : decode b_Md_finish 23 = .ok (.iastore, 1) := by decide +kernel
theorem d_Md_finish_24 : decode b_Md_finish 24 = .ok (.aload_n 0, 1) := by decide +kernel
theorem d_Md_finish_25 : decode b_Md_finish 25 = .ok (.getfield 32, 3) := by decide +kernel
theorem d_Md_finish_28 : decode b_Md_finish 28 = .ok (.iload 5, 2) := by decide +kernel
theorem d_Md_finish_30 : decode b_Md_finish 30 = .ok (.iload 4, 2) := by decide +kernel
theorem d_Md_finish_32 : decode b_Md_finish 32 = .ok (.iastore, 1) := by decide +kernel
theorem d_Md_finish_33 : decode b_Md_finish 33 = .ok (.aload_n 0, 1) := by decide +kernel
theorem d_Md_finish_34 : decode b_Md_finish 34 = .ok (.iconst 4, 1) := by decide +kernel
theorem d_Md_finish_35 : decode b_Md_finish 35 = .ok (.iload_n 1, 1) := by decide +kernel
theorem d_Md_finish_36 : decode b_Md_finish 36 = .ok (.iload_n 2, 1) := by decide +kernel
theorem d_Md_finish_37 : decode b_Md_finish 37 = .ok (.iconst 0, 1) := by decide +kernel
theorem d_Md_finish_38 : decode b_Md_finish 38 = .ok (.invokevirtual 161, 3) := by decide +kernel
theorem d_Md_finish_41 : decode b_Md_finish 41 = .ok (.return_, 1) := by decide +kernel
theorem d_Md_start_0 : decode b_Md_start 0 = .ok (.aload_n 0, 1) := by decide +kernel
theorem d_Md_start_1 : decode b_Md_start 1 = .ok (.getfield 47, 3) := by decide +kernel
theorem d_Md_start_4 : decode b_Md_start 4 = .ok (.iload_n 1, 1) := by decide +kernel
theorem d_Md_start_5 : decode b_Md_start 5 = .ok (.iconst 1, 1) := by decide +kernel
theorem d_Md_start_6 : decode b_Md_start 6 = .ok (.bastore, 1) := by decide +kernel
theorem d_Md_start_7 : decode b_Md_start 7 = .ok (.aload_n 0, 1) := by decide +kernel
theorem d_Md_start_8 : decode b_Md_start 8 = .ok (.getfield 50, 3) := by decide +kernel
theorem d_Md_start_11 : decode b_Md_start 11 = .ok (.iload_n 1, 1) := by decide +kernel
theorem d_Md_start_12 : decode b_Md_start 12 = .ok (.iload_n 2, 1) := by decide +kernel
theorem d_Md_start_13 : decode b_Md_start 13 = .ok (.iastore, 1) := by decide +kernel
theorem d_Md_start_14 : decode b_Md_start 14 = .ok (.aload_n 0, 1) := by decide +kernel
theorem d_Md_start_15 : decode b_Md_start 15 = .ok (.getfield 53, 3) := by decide +kernel
theorem d_Md_start_18 : decode b_Md_start 18 = .ok (.iload_n 1, 1) := by decide +kernel
theorem d_Md_start_19 : decode b_Md_start 19 = .ok (.iload_n 3, 1) := by decide +kernel
theorem d_Md_start_20 : decode b_Md_start 20 = .ok (.iastore, 1) := by decide +kernel
theorem d_Md_start_21 : decode b_Md_start 21 = .ok (.aload_n 0, 1) := by decide +kernel
theorem d_Md_start_22 : decode b_Md_start 22 = .ok (.getfield 56, 3) := by decide +kernel
theorem d_Md_start_25 : decode b_Md_start 25 = .ok (.iload_n 1, 1) := by decide +kernel
theorem d_Md_start_26 : decode b_Md_start 26 = .ok (.iconst 0, 1) := by decide +kernel
theorem d_Md_start_27 : decode b_Md_start 27 = .ok (.iastore, 1) := by decide +kernel
theorem d_Md_start_28 : decode b_Md_start 28 = .ok (.return_, 1) := by decide +kernel
theorem d_Md_agree_0 : decode b_Md_agree 0 = .ok (.bipush 30, 2) := by decide +kernel
theorem d_Md_agree_2 : decode b_Md_agree 2 = .ok (.iload_n 1, 1) := by decide +kernel
theorem d_Md_agree_3 : decode b_Md_agree 3 = .ok (.imul, 1) := by decide +kernel
theorem d_Md_agree_4 : decode b_Md_agree 4 = .ok (.iload_n 2, 1) := by decide +kernel
theorem d_Md_agree_5 : decode b_Md_agree 5 = .ok (.iadd, 1) := by decide +kernel
theorem d_Md_agree_6 : decode b_Md_agree 6 = .ok (.istore 7, 2) := by decide +kernel
theorem d_Md_agree_8 : decode b_Md_agree 8 = .ok (.aload_n 0, 1) := by decide +kernel
theorem d_Md_agree_9 : decode b_Md_agree 9 = .ok (.iload 7, 2) := by decide +kernel
theorem d_Md_agree_11 : decode b_Md_agree 11 = .ok (.iconst 2, 1) := by decide +kernel
theorem d_Md_agree_12 : decode b_Md_agree 12 = .ok (.iload_n 3, 1) := by decide +kernel
theorem d_Md_agree_13 : decode b_Md_agree 13 = .ok (.iload 4, 2) := by decide +kernel
theorem d_Md_agree_15 : decode b_Md_agree 15 = .ok (.invokevirtual 104, 3) := by decide +kernel
theorem d_Md_agree_18 : decode b_Md_agree 18 = .ok (.aload_n 0, 1) := by decide +kernel
theorem d_Md_agree_19 : decode b_Md_agree 19 = .ok (.getfield 29, 3) := by decide +kernel
theorem d_Md_agree_22 : decode b_Md_agree 22 = .ok (.iload 7, 2) := by decide +kernel
theorem d_Md_agree_24 : decode b_Md_agree 24 = .ok (.iload 5, 2) := by decide +kernel
theorem d_Md_agree_26 : decode b_Md_agree 26 = .ok (.iastore, 1) := by decide +kernel
theorem d_Md_agree_27 : decode b_Md_agree 27 = .ok (.aload_n 0, 1) := by decide +kernel
theorem d_Md_agree_28 : decode b_Md_agree 28 = .ok (.getfield 32, 3) := by decide +kernel
theorem d_Md_agree_31 : decode b_Md_agree 31 = .ok (.iload 7, 2) := by decide +kernel
theorem d_Md_agree_33 : decode b_Md_agree 33 = .ok (.iload 6, 2) := by decide +kernel
theorem d_Md_agree_35 : decode b_Md_agree 35 = .ok (.iastore, 1) := by decide +kernel
theorem d_Md_agree_36 : decode b_Md_agree 36 = .ok (.aload_n 0, 1) := by decide +kernel
theorem d_Md_agree_37 : decode b_Md_agree 37 = .ok (.getfield 38, 3) := by decide +kernel
theorem d_Md_agree_40 : decode b_Md_agree 40 = .ok (.iload 7, 2) := by decide +kernel
theorem d_Md_agree_42 : decode b_Md_agree 42 = .ok (.aload_n 0, 1) := by decide +kernel
theorem d_Md_agree_43 : decode b_Md_agree 43 = .ok (.getfield 53, 3) := by decide +kernel
theorem d_Md_agree_46 : decode b_Md_agree 46 = .ok (.iload 7, 2) := by decide +kernel
theorem d_Md_agree_48 : decode b_Md_agree 48 = .ok (.iaload, 1) := by decide +kernel
theorem d_Md_agree_49 : decode b_Md_agree 49 = .ok (.iastore, 1) := by decide +kernel
theorem d_Md_agree_50 : decode b_Md_agree 50 = .ok (.aload_n 0, 1) := by decide +kernel
theorem d_Md_agree_51 : decode b_Md_agree 51 = .ok (.iload 7, 2) := by decide +kernel
theorem d_Md_agree_53 : decode b_Md_agree 53 = .ok (.iconst 2, 1) := by decide +kernel
theorem d_Md_agree_54 : decode b_Md_agree 54 = .ok (.aload_n 0, 1) := by decide +kernel
theorem d_Md_agree_55 : decode b_Md_agree 55 = .ok (.getfield 53, 3) := by decide +kernel
theorem d_Md_agree_58 : decode b_Md_agree 58 = .ok (.iload 7, 2) := by decide +kernel
theorem d_Md_agree_60 : decode b_Md_agree 60 = .ok (.iaload, 1) := by decide +kernel
theorem d_Md_agree_61 : decode b_Md_agree 61 = .ok (.invokevirtual 158, 3) := by decide +kernel
theorem d_Md_agree_64 : decode b_Md_agree 64 = .ok (.aload_n 0, 1) := by decide +kernel
theorem d_Md_agree_65 : decode b_Md_agree 65 = .ok (.iconst 2, 1) := by decide +kernel
theorem d_Md_agree_66 : decode b_Md_agree 66 = .ok (.iload_n 1, 1) := by decide +kernel
theorem d_Md_agree_67 : decode b_Md_agree 67 = .ok (.iload_n 2, 1) := by decide +kernel
theorem d_Md_agree_68 : decode b_Md_agree 68 = .ok (.aload_n 0, 1) := by decide +kernel
theorem d_Md_agree_69 : decode b_Md_agree 69 = .ok (.getfield 53, 3) := by decide +kernel
theorem d_Md_agree_72 : decode b_Md_agree 72 = .ok (.iload 7, 2) := by decide +kernel
theorem d_Md_agree_74 : decode b_Md_agree 74 = .ok (.iaload, 1) := by decide +kernel
theorem d_Md_agree_75 : decode b_Md_agree 75 = .ok (.invokevirtual 161, 3) := by decide +kernel
theorem d_Md_agree_78 : decode b_Md_agree 78 = .ok (.return_, 1) := by decide +kernel
theorem d_Md_afterPreaccept_0 : decode b_Md_afterPreaccept 0 = .ok (.bipush 30, 2) := by decide +kernel
theorem d_Md_afterPreaccept_2 : decode b_Md_afterPreaccept 2 = .ok (.iload_n 1, 1) := by decide +kernel
theorem d_Md_afterPreaccept_3 : decode b_Md_afterPreaccept 3 = .ok (.imul, 1) := by decide +kernel
theorem d_Md_afterPreaccept_4 : decode b_Md_afterPreaccept 4 = .ok (.iload_n 2, 1) := by decide +kernel
theorem d_Md_afterPreaccept_5 : decode b_Md_afterPreaccept 5 = .ok (.iadd, 1) := by decide +kernel
theorem d_Md_afterPreaccept_6 : decode b_Md_afterPreaccept 6 = .ok (.istore_n 3, 1) := by decide +kernel
theorem d_Md_afterPreaccept_7 : decode b_Md_afterPreaccept 7 = .ok (.iconst 1, 1) := by decide +kernel
theorem d_Md_afterPreaccept_8 : decode b_Md_afterPreaccept 8 = .ok (.istore 4, 2) := by decide +kernel
theorem d_Md_afterPreaccept_10 : decode b_Md_afterPreaccept 10 = .ok (.aload_n 0, 1) := by decide +kernel
theorem d_Md_afterPreaccept_11 : decode b_Md_afterPreaccept 11 = .ok (.getfield 71, 3) := by decide +kernel
theorem d_Md_afterPreaccept_14 : decode b_Md_afterPreaccept 14 = .ok (.iconst 4, 1) := by decide +kernel
theorem d_Md_afterPreaccept_15 : decode b_Md_afterPreaccept 15 = .ok (.iload_n 3, 1) := by decide +kernel
theorem d_Md_afterPreaccept_16 : decode b_Md_afterPreaccept 16 = .ok (.imul, 1) := by decide +kernel
theorem d_Md_afterPreaccept_17 : decode b_Md_afterPreaccept 17 = .ok (.iaload, 1) := by decide +kernel
theorem d_Md_afterPreaccept_18 : decode b_Md_afterPreaccept 18 = .ok (.istore 5, 2) := by decide +kernel
theorem d_Md_afterPreaccept_20 : decode b_Md_afterPreaccept 20 = .ok (.iconst 0, 1) := by decide +kernel
theorem d_Md_afterPreaccept_21 : decode b_Md_afterPreaccept 21 = .ok (.istore 6, 2) := by decide +kernel
theorem d_Md_afterPreaccept_23 : decode b_Md_afterPreaccept 23 = .ok (.iconst 4, 1) := by decide +kernel
theorem d_Md_afterPreaccept_24 : decode b_Md_afterPreaccept 24 = .ok (.iload_n 3, 1) := by decide +kernel
theorem d_Md_afterPreaccept_25 : decode b_Md_afterPreaccept 25 = .ok (.imul, 1) := by decide +kernel
theorem d_Md_afterPreaccept_26 : decode b_Md_afterPreaccept 26 = .ok (.istore 7, 2) := by decide +kernel
theorem d_Md_afterPreaccept_28 : decode b_Md_afterPreaccept 28 = .ok (.iload 7, 2) := by decide +kernel
theorem d_Md_afterPreaccept_30 : decode b_Md_afterPreaccept 30 = .ok (.iconst 4, 1) := by decide +kernel
theorem d_Md_afterPreaccept_31 : decode b_Md_afterPreaccept 31 = .ok (.iload_n 3, 1) := by decide +kernel
theorem d_Md_afterPreaccept_32 : decode b_Md_afterPreaccept 32 = .ok (.imul, 1) := by decide +kernel
theorem d_Md_afterPreaccept_33 : decode b_Md_afterPreaccept 33 = .ok (.aload_n 0, 1) := by decide +kernel
theorem d_Md_afterPreaccept_34 : decode b_Md_afterPreaccept 34 = .ok (.getfield 56, 3) := by decide +kernel
theorem d_Md_afterPreaccept_37 : decode b_Md_afterPreaccept 37 = .ok (.iload_n 3, 1) := by decide +kernel
theorem d_Md_afterPreaccept_38 : decode b_Md_afterPreaccept 38 = .ok (.iaload, 1) := by decide +kernel
theorem d_Md_afterPreaccept_39 : decode b_Md_afterPreaccept 39 = .ok (.iadd, 1) := by decide +kernel
theorem d_Md_afterPreaccept_40 : decode b_Md_afterPreaccept 40 = .ok (.if_icmp .ge 95, 3) := by decide +kernel
theorem d_Md_afterPreaccept_43 : decode b_Md_afterPreaccept 43 = .ok (.iload 4, 2) := by decide +kernel
theorem d_Md_afterPreaccept_45 : decode b_Md_afterPreaccept 45 = .ok (.ifCond .eq 43, 3) := by decide +kernel
theorem d_Md_afterPreaccept_48 : decode b_Md_afterPreaccept 48 = .ok (.aload_n 0, 1) := by decide +kernel
theorem d_Md_afterPreaccept_49 : decode b_Md_afterPreaccept 49 = .ok (.getfield 71, 3) := by decide +kernel
theorem d_Md_afterPreaccept_52 : decode b_Md_afterPreaccept 52 = .ok (.iload 7, 2) := by decide +kernel
theorem d_Md_afterPreaccept_54 : decode b_Md_afterPreaccept 54 = .ok (.iaload, 1) := by decide +kernel
theorem d_Md_afterPreaccept_55 : decode b_Md_afterPreaccept 55 = .ok (.aload_n 0, 1) := by decide +kernel
theorem d_Md_afterPreaccept_56 : decode b_Md_afterPreaccept 56 = .ok (.getfield 71, 3) := by decide +kernel
theorem d_Md_afterPreaccept_59 : decode b_Md_afterPreaccept 59 = .ok (.iconst 4, 1) := by decide +kernel
theorem d_Md_afterPreaccept_60 : decode b_Md_afterPreaccept 60 = .ok (.iload_n 3, 1) := by decide +kernel
theorem d_Md_afterPreaccept_61 : decode b_Md_afterPreaccept 61 = .ok (.imul, 1) := by decide +kernel
theorem d_Md_afterPreaccept_62 : decode b_Md_afterPreaccept 62 = .ok (.iaload, 1) := by decide +kernel
theorem d_Md_afterPreaccept_63 : decode b_Md_afterPreaccept 63 = .ok (.if_icmp .ne 25, 3) := by decide +kernel
theorem d_Md_afterPreaccept_66 : decode b_Md_afterPreaccept 66 = .ok (.aload_n 0, 1) := by decide +kernel
theorem d_Md_afterPreaccept_67 : decode b_Md_afterPreaccept 67 = .ok (.getfield 74, 3) := by decide +kernel
theorem d_Md_afterPreaccept_70 : decode b_Md_afterPreaccept 70 = .ok (.iload 7, 2) := by decide +kernel
theorem d_Md_afterPreaccept_72 : decode b_Md_afterPreaccept 72 = .ok (.iaload, 1) := by decide +kernel
theorem d_Md_afterPreaccept_73 : decode b_Md_afterPreaccept 73 = .ok (.aload_n 0, 1) := by decide +kernel
theorem d_Md_afterPreaccept_74 : decode b_Md_afterPreaccept 74 = .ok (.getfield 74, 3) := by decide +kernel
theorem d_Md_afterPreaccept_77 : decode b_Md_afterPreaccept 77 = .ok (.iconst 4, 1) := by decide +kernel
theorem d_Md_afterPreaccept_78 : decode b_Md_afterPreaccept 78 = .ok (.iload_n 3, 1) := by decide +kernel
theorem d_Md_afterPreaccept_79 : decode b_Md_afterPreaccept 79 = .ok (.imul, 1) := by decide +kernel
theorem d_Md_afterPreaccept_80 : decode b_Md_afterPreaccept 80 = .ok (.iaload, 1) := by decide +kernel
theorem d_Md_afterPreaccept_81 : decode b_Md_afterPreaccept 81 = .ok (.if_icmp .ne 7, 3) := by decide +kernel
theorem d_Md_afterPreaccept_84 : decode b_Md_afterPreaccept 84 = .ok (.iconst 1, 1) := by decide +kernel
theorem d_Md_afterPreaccept_85 : decode b_Md_afterPreaccept 85 = .ok (.goto 4, 3) := by decide +kernel
theorem d_Md_afterPreaccept_88 : decode b_Md_afterPreaccept 88 = .ok (.iconst 0, 1) := by decide +kernel
theorem d_Md_afterPreaccept_89 : decode b_Md_afterPreaccept 89 = .ok (.istore 4, 2) := by decide +kernel
theorem d_Md_afterPreaccept_91 : decode b_Md_afterPreaccept 91 = .ok (.aload_n 0, 1) := by decide +kernel
theorem d_Md_afterPreaccept_92 : decode b_Md_afterPreaccept 92 = .ok (.getfield 71, 3) := by decide +kernel
theorem d_Md_afterPreaccept_95 : decode b_Md_afterPreaccept 95 = .ok (.iload 7, 2) := by decide +kernel
theorem d_Md_afterPreaccept_97 : decode b_Md_afterPreaccept 97 = .ok (.iaload, 1) := by decide +kernel
theorem d_Md_afterPreaccept_98 : decode b_Md_afterPreaccept 98 = .ok (.iload 5, 2) := by decide +kernel
theorem d_Md_afterPreaccept_100 : decode b_Md_afterPreaccept 100 = .ok (.if_icmp .le 13, 3) := by decide +kernel
theorem d_Md_afterPreaccept_103 : decode b_Md_afterPreaccept 103 = .ok (.aload_n 0, 1) := by decide +kernel
theorem d_Md_afterPreaccept_104 : decode b_Md_afterPreaccept 104 = .ok (.getfield 71, 3) := by decide +kernel
theorem d_Md_afterPreaccept_107 : decode b_Md_afterPreaccept 107 = .ok (.iload 7, 2) := by decide +kernel
theorem d_Md_afterPreaccept_109 : decode b_Md_afterPreaccept 109 = .ok (.iaload, 1) := by decide +kernel
theorem d_Md_afterPreaccept_110 : decode b_Md_afterPreaccept 110 = .ok (.goto 5, 3) := by decide +kernel
theorem d_Md_afterPreaccept_113 : decode b_Md_afterPreaccept 113 = .ok (.iload 5, 2) := by decide +kernel
theorem d_Md_afterPreaccept_115 : decode b_Md_afterPreaccept 115 = .ok (.istore 5, 2) := by decide +kernel
theorem d_Md_afterPreaccept_117 : decode b_Md_afterPreaccept 117 = .ok (.iload 6, 2) := by decide +kernel
theorem d_Md_afterPreaccept_119 : decode b_Md_afterPreaccept 119 = .ok (.aload_n 0, 1) := by decide +kernel
theorem d_Md_afterPreaccept_120 : decode b_Md_afterPreaccept 120 = .ok (.getfield 74, 3) := by decide +kernel
theorem d_Md_afterPreaccept_123 : decode b_Md_afterPreaccept 123 = .ok (.iload 7, 2) := by decide +kernel
theorem d_Md_afterPreaccept_125 : decode b_Md_afterPreaccept 125 = .ok (.iaload, 1) := by decide +kernel
theorem d_Md_afterPreaccept_126 : decode b_Md_afterPreaccept 126 = .ok (.ior, 1) := by decide +kernel
theorem d_Md_afterPreaccept_127 : decode b_Md_afterPreaccept 127 = .ok (.istore 6, 2) := by decide +kernel
theorem d_Md_afterPreaccept_129 : decode b_Md_afterPreaccept 129 = .ok (.iinc 7 1, 3) := by decide +kernel
theorem d_Md_afterPreaccept_132 : decode b_Md_afterPreaccept 132 = .ok (.goto (-104), 3) := by decide +kernel
theorem d_Md_afterPreaccept_135 : decode b_Md_afterPreaccept 135 = .ok (.aload_n 0, 1) := by decide +kernel
theorem d_Md_afterPreaccept_136 : decode b_Md_afterPreaccept 136 = .ok (.getfield 50, 3) := by decide +kernel
theorem d_Md_afterPreaccept_139 : decode b_Md_afterPreaccept 139 = .ok (.iload_n 3, 1) := by decide +kernel
theorem d_Md_afterPreaccept_140 : decode b_Md_afterPreaccept 140 = .ok (.iaload, 1) := by decide +kernel
theorem d_Md_afterPreaccept_141 : decode b_Md_afterPreaccept 141 = .ok (.ifCond .ne 12, 3) := by decide +kernel
theorem d_Md_afterPreaccept_144 : decode b_Md_afterPreaccept 144 = .ok (.iload 4, 2) := by decide +kernel
theorem d_Md_afterPreaccept_146 : decode b_Md_afterPreaccept 146 = .ok (.ifCond .eq 7, 3) := by decide +kernel
theorem d_Md_afterPreaccept_149 : decode b_Md_afterPreaccept 149 = .ok (.iconst 1, 1) := by decide +kernel
theorem d_Md_afterPreaccept_150 : decode b_Md_afterPreaccept 150 = .ok (.goto 4, 3) := by decide +kernel
theorem d_Md_afterPreaccept_153 : decode b_Md_afterPreaccept 153 = .ok (.iconst 0, 1) := by decide +kernel
theorem d_Md_afterPreaccept_154 : decode b_Md_afterPreaccept 154 = .ok (.istore 7, 2) := by decide +kernel
theorem d_Md_afterPreaccept_156 : decode b_Md_afterPreaccept 156 = .ok (.iload 7, 2) := by decide +kernel
theorem d_Md_afterPreaccept_158 : decode b_Md_afterPreaccept 158 = .ok (.ifCond .eq 31, 3) := by decide +kernel
theorem d_Md_afterPreaccept_161 : decode b_Md_afterPreaccept 161 = .ok (.aload_n 0, 1) := by decide +kernel
theorem d_Md_afterPreaccept_162 : decode b_Md_afterPreaccept 162 = .ok (.getfield 56, 3) := by decide +kernel
theorem d_Md_afterPreaccept_165 : decode b_Md_afterPreaccept 165 = .ok (.iload_n 3, 1) := by decide +kernel
theorem d_Md_afterPreaccept_166 : decode b_Md_afterPreaccept 166 = .ok (.iaload, 1) := by decide +kernel
theorem d_Md_afterPreaccept_167 : decode b_Md_afterPreaccept 167 = .ok (.aload_n 0, 1) := by decide +kernel
theorem d_Md_afterPreaccept_168 : decode b_Md_afterPreaccept 168 = .ok (.getfield 86, 3) := by decide +kernel
theorem d_Md_afterPreaccept_171 : decode b_Md_afterPreaccept 171 = .ok (.iconst 2, 1) := by decide +kernel
theorem d_Md_afterPreaccept_172 : decode b_Md_afterPreaccept 172 = .ok (.isub, 1) := by decide +kernel
theorem d_Md_afterPreaccept_173 : decode b_Md_afterPreaccept 173 = .ok (.if_icmp .ne 16, 3) := by decide +kernel
theorem d_Md_afterPreaccept_176 : decode b_Md_afterPreaccept 176 = .ok (.aload_n 0, 1) := by decide +kernel
theorem d_Md_afterPreaccept_177 : decode b_Md_afterPreaccept 177 = .ok (.iload_n 1, 1) := by decide +kernel
theorem d_Md_afterPreaccept_178 : decode b_Md_afterPreaccept 178 = .ok (.iload_n 2, 1) := by decide +kernel
theorem d_Md_afterPreaccept_179 : decode b_Md_afterPreaccept 179 = .ok (.iload 5, 2) := by decide +kernel
theorem d_Md_afterPreaccept_181 : decode b_Md_afterPreaccept 181 = .ok (.iload 6, 2) := by decide +kernel
theorem d_Md_afterPreaccept_183 : decode b_Md_afterPreaccept 183 = .ok (.invokevirtual 145, 3) := by decide +kernel
theorem d_Md_afterPreaccept_186 : decode b_Md_afterPreaccept 186 = .ok (.goto 43, 3) := by decide +kernel
theorem d_Md_afterPreaccept_189 : decode b_Md_afterPreaccept 189 = .ok (.iload 7, 2) := by decide +kernel
theorem d_Md_afterPreaccept_191 : decode b_Md_afterPreaccept 191 = .ok (.ifCond .ne 38, 3) := by decide +kernel
theorem d_Md_afterPreaccept_194 : decode b_Md_afterPreaccept 194 = .ok (.aload_n 0, 1) := by decide +kernel
theorem d_Md_afterPreaccept_195 : decode b_Md_afterPreaccept 195 = .ok (.getfield 56, 3) := by decide +kernel
theorem d_Md_afterPreaccept_198 : decode b_Md_afterPreaccept 198 = .ok (.iload_n 3, 1) := by decide +kernel
theorem d_Md_afterPreaccept_199 : decode b_Md_afterPreaccept 199 = .ok (.iaload, 1) := by decide +kernel
theorem d_Md_afterPreaccept_200 : decode b_Md_afterPreaccept 200 = .ok (.aload_n 0, 1) := by decide +kernel
theorem d_Md_afterPreaccept_201 : decode b_Md_afterPreaccept 201 = .ok (.getfield 90, 3) := by decide +kernel
theorem d_Md_afterPreaccept_204 : decode b_Md_afterPreaccept 204 = .ok (.if_icmp .lt 25, 3) := by decide +kernel
theorem d_Md_afterPreaccept_207 : decode b_Md_afterPreaccept 207 = .ok (.aload_n 0, 1) := by decide +kernel
theorem d_Md_afterPreaccept_208 : decode b_Md_afterPreaccept 208 = .ok (.iload_n 1, 1) := by decide +kernel
theorem d_Md_afterPreaccept_209 : decode b_Md_afterPreaccept 209 = .ok (.iload_n 2, 1) := by decide +kernel
theorem d_Md_afterPreaccept_210 : decode b_Md_afterPreaccept 210 = .ok (.aload_n 0, 1) := by decide +kernel
theorem d_Md_afterPreaccept_211 : decode b_Md_afterPreaccept 211 = .ok (.getfield 23, 3) := by decide +kernel
theorem d_Md_afterPreaccept_214 : decode b_Md_afterPreaccept 214 = .ok (.iload_n 3, 1) := by decide +kernel
theorem d_Md_afterPreaccept_215 : decode b_Md_afterPreaccept 215 = .ok (.iaload, 1) := by decide +kernel
theorem d_Md_afterPreaccept_216 : decode b_Md_afterPreaccept 216 = .ok (.aload_n 0, 1) := by decide +kernel
theorem d_Md_afterPreaccept_217 : decode b_Md_afterPreaccept 217 = .ok (.getfield 26, 3) := by decide +kernel
theorem d_Md_afterPreaccept_220 : decode b_Md_afterPreaccept 220 = .ok (.iload_n 3, 1) := by decide +kernel
theorem d_Md_afterPreaccept_221 : decode b_Md_afterPreaccept 221 = .ok (.iaload, 1) := by decide +kernel
theorem d_Md_afterPreaccept_222 : decode b_Md_afterPreaccept 222 = .ok (.iload 5, 2) := by decide +kernel
theorem d_Md_afterPreaccept_224 : decode b_Md_afterPreaccept 224 = .ok (.iload 6, 2) := by decide +kernel
theorem d_Md_afterPreaccept_226 : decode b_Md_afterPreaccept 226 = .ok (.invokevirtual 155, 3) := by decide +kernel
theorem d_Md_afterPreaccept_229 : decode b_Md_afterPreaccept 229 = .ok (.return_, 1) := by decide +kernel
theorem d_Md_accepted_0 : decode b_Md_accepted 0 = .ok (.iconst (-1), 1) := by decide +kernel
theorem d_Md_accepted_1 : decode b_Md_accepted 1 = .ok (.istore_n 3, 1) := by decide +kernel
theorem d_Md_accepted_2 : decode b_Md_accepted 2 = .ok (.iload_n 1, 1) := by decide +kernel
theorem d_Md_accepted_3 : decode b_Md_accepted 3 = .ok (.istore 4, 2) := by decide +kernel
theorem d_Md_accepted_5 : decode b_Md_accepted 5 = .ok (.iload 4, 2) := by decide +kernel
theorem d_Md_accepted_7 : decode b_Md_accepted 7 = .ok (.iload_n 1, 1) := by decide +kernel
theorem d_Md_accepted_8 : decode b_Md_accepted 8 = .ok (.iload_n 2, 1) := by decide +kernel
theorem d_Md_accepted_9 : decode b_Md_accepted 9 = .ok (.iadd, 1) := by decide +kernel
theorem d_Md_accepted_10 : decode b_Md_accepted 10 = .ok (.if_icmp .ge 43, 3) := by decide +kernel
theorem d_Md_accepted_13 : decode b_Md_accepted 13 = .ok (.aload_n 0, 1) := by decide +kernel
theorem d_Md_accepted_14 : decode b_Md_accepted 14 = .ok (.getfield 62, 3) := by decide +kernel
theorem d_Md_accepted_17 : decode b_Md_accepted 17 = .ok (.iload 4, 2) := by decide +kernel
theorem d_Md_accepted_19 : decode b_Md_accepted 19 = .ok (.iaload, 1) := by decide +kernel
theorem d_Md_accepted_20 : decode b_Md_accepted 20 = .ok (.iconst 2, 1) := by decide +kernel
theorem d_Md_accepted_21 : decode b_Md_accepted 21 = .ok (.if_icmp .ne 26, 3) := by decide +kernel
theorem d_Md_accepted_24 : decode b_Md_accepted 24 = .ok (.iload_n 3, 1) := by decide +kernel
theorem d_Md_accepted_25 : decode b_Md_accepted 25 = .ok (.ifCond .lt 19, 3) := by decide +kernel
theorem d_Md_accepted_28 : decode b_Md_accepted 28 = .ok (.aload_n 0, 1) := by decide +kernel
theorem d_Md_accepted_29 : decode b_Md_accepted 29 = .ok (.getfield 77, 3) := by decide +kernel
theorem d_Md_accepted_32 : decode b_Md_accepted 32 = .ok (.iload 4, 2) := by decide +kernel
theorem d_Md_accepted_34 : decode b_Md_accepted 34 = .ok (.iaload, 1) := by decide +kernel
theorem d_Md_accepted_35 : decode b_Md_accepted 35 = .ok (.aload_n 0, 1) := by decide +kernel
theorem d_Md_accepted_36 : decode b_Md_accepted 36 = .ok (.getfield 77, 3) := by decide +kernel
theorem d_Md_accepted_39 : decode b_Md_accepted 39 = .ok (.iload_n 3, 1) := by decide +kernel
theorem d_Md_accepted_40 : decode b_Md_accepted 40 = .ok (.iaload, 1) := by decide +kernel
theorem d_Md_accepted_41 : decode b_Md_accepted 41 = .ok (.if_icmp .le 6, 3) := by decide +kernel
theorem d_Md_accepted_44 : decode b_Md_accepted 44 = .ok (.iload 4, 2) := by decide +kernel
theorem d_Md_accepted_46 : decode b_Md_accepted 46 = .ok (.istore_n 3, 1) := by decide +kernel
theorem d_Md_accepted_47 : decode b_Md_accepted 47 = .ok (.iinc 4 1, 3) := by decide +kernel
theorem d_Md_accepted_50 : decode b_Md_accepted 50 = .ok (.goto (-45), 3) := by decide +kernel
theorem d_Md_accepted_53 : decode b_Md_accepted 53 = .ok (.iload_n 3, 1) := by decide +kernel
theorem d_Md_accepted_54 : decode b_Md_accepted 54 = .ok (.ireturn, 1) := by decide +kernel
theorem d_Md_plain_0 : decode b_Md_plain 0 = .ok (.aload_n 0, 1) := by decide +kernel
theorem d_Md_plain_1 : decode b_Md_plain 1 = .ok (.getfield 62, 3) := by decide +kernel
theorem d_Md_plain_4 : decode b_Md_plain 4 = .ok (.iload_n 1, 1) := by decide +kernel
theorem d_Md_plain_5 : decode b_Md_plain 5 = .ok (.iaload, 1) := by decide +kernel
theorem d_Md_plain_6 : decode b_Md_plain 6 = .ok (.iconst 1, 1) := by decide +kernel
theorem d_Md_plain_7 : decode b_Md_plain 7 = .ok (.if_icmp .ne 29, 3) := by decide +kernel
theorem d_Md_plain_10 : decode b_Md_plain 10 = .ok (.aload_n 0, 1) := by decide +kernel
theorem d_Md_plain_11 : decode b_Md_plain 11 = .ok (.getfield 77, 3) := by decide +kernel
theorem d_Md_plain_14 : decode b_Md_plain 14 = .ok (.iload_n 1, 1) := by decide +kernel
theorem d_Md_plain_15 : decode b_Md_plain 15 = .ok (.iaload, 1) := by decide +kernel
theorem d_Md_plain_16 : decode b_Md_plain 16 = .ok (.ifCond .ne 20, 3) := by decide +kernel
theorem d_Md_plain_19 : decode b_Md_plain 19 = .ok (.aload_n 0, 1) := by decide +kernel
theorem d_Md_plain_20 : decode b_Md_plain 20 = .ok (.getfield 59, 3) := by decide +kernel
theorem d_Md_plain_23 : decode b_Md_plain 23 = .ok (.iload_n 1, 1) := by decide +kernel
theorem d_Md_plain_24 : decode b_Md_plain 24 = .ok (.iaload, 1) := by decide +kernel
theorem d_Md_plain_25 : decode b_Md_plain 25 = .ok (.iload_n 2, 1) := by decide +kernel
theorem d_Md_plain_26 : decode b_Md_plain 26 = .ok (.bipush 6, 2) := by decide +kernel
theorem d_Md_plain_28 : decode b_Md_plain 28 = .ok (.idiv, 1) := by decide +kernel
theorem d_Md_plain_29 : decode b_Md_plain 29 = .ok (.if_icmp .eq 7, 3) := by decide +kernel
theorem d_Md_plain_32 : decode b_Md_plain 32 = .ok (.iconst 1, 1) := by decide +kernel
theorem d_Md_plain_33 : decode b_Md_plain 33 = .ok (.goto 4, 3) := by decide +kernel
theorem d_Md_plain_36 : decode b_Md_plain 36 = .ok (.iconst 0, 1) := by decide +kernel
theorem d_Md_plain_37 : decode b_Md_plain 37 = .ok (.ireturn, 1) := by decide +kernel
theorem d_Md_common_0 : decode b_Md_common 0 = .ok (.iload_n 1, 1) := by decide +kernel
theorem d_Md_common_1 : decode b_Md_common 1 = .ok (.istore 4, 2) := by decide +kernel
theorem d_Md_common_3 : decode b_Md_common 3 = .ok (.iload 4, 2) := by decide +kernel
theorem d_Md_common_5 : decode b_Md_common 5 = .ok (.iload_n 1, 1) := by decide +kernel
theorem d_Md_common_6 : decode b_Md_common 6 = .ok (.iload_n 2, 1) := by decide +kernel
theorem d_Md_common_7 : decode b_Md_common 7 = .ok (.iadd, 1) := by decide +kernel
theorem d_Md_common_8 : decode b_Md_common 8 = .ok (.if_icmp .ge 98, 3) := by decide +kernel
theorem d_Md_common_11 : decode b_Md_common 11 = .ok (.iconst 0, 1) := by decide +kernel
theorem d_Md_common_12 : decode b_Md_common 12 = .ok (.istore 5, 2) := by decide +kernel
theorem d_Md_common_14 : decode b_Md_common 14 = .ok (.iload_n 1, 1) := by decide +kernel
theorem d_Md_common_15 : decode b_Md_common 15 = .ok (.istore 6, 2) := by decide +kernel
theorem d_Md_common_17 : decode b_Md_common 17 = .ok (.iload 6, 2) := by decide +kernel
theorem d_Md_common_19 : decode b_Md_common 19 = .ok (.iload_n 1, 1) := by decide +kernel
theorem d_Md_common_20 : decode b_Md_common 20 = .ok (.iload_n 2, 1) := by decide +kernel
theorem d_Md_common_21 : decode b_Md_common 21 = .ok (.iadd, 1) := by decide +kernel
theorem d_Md_common_22 : decode b_Md_common 22 = .ok (.if_icmp .ge 66, 3) := by decide +kernel
theorem d_Md_common_25 : decode b_Md_common 25 = .ok (.aload_n 0, 1) := by decide +kernel
theorem d_Md_common_26 : decode b_Md_common 26 = .ok (.iload 4, 2) := by decide +kernel
theorem d_Md_common_28 : decode b_Md_common 28 = .ok (.iload_n 3, 1) := by decide +kernel
theorem d_Md_common_29 : decode b_Md_common 29 = .ok (.invokevirtual 164, 3) := by decide +kernel
theorem d_Md_common_32 : decode b_Md_common 32 = .ok (.ifCond .eq 50, 3) := by decide +kernel
theorem d_Md_common_35 : decode b_Md_common 35 = .ok (.aload_n 0, 1) := by decide +kernel
theorem d_Md_common_36 : decode b_Md_common 36 = .ok (.iload 6, 2) := by decide +kernel
theorem d_Md_common_38 : decode b_Md_common 38 = .ok (.iload_n 3, 1) := by decide +kernel
theorem d_Md_common_39 : decode b_Md_common 39 = .ok (.invokevirtual 164, 3) := by decide +kernel
theorem d_Md_common_42 : decode b_Md_common 42 = .ok (.ifCond .eq 40, 3) := by decide +kernel
theorem d_Md_common_45 : decode b_Md_common 45 = .ok (.aload_n 0, 1) := by decide +kernel
theorem d_Md_common_46 : decode b_Md_common 46 = .ok (.getfield 71, 3) := by decide +kernel
theorem d_Md_common_49 : decode b_Md_common 49 = .ok (.iload 6, 2) := by decide +kernel
theorem d_Md_common_51 : decode b_Md_common 51 = .ok (.iaload, 1) := by decide +kernel
theorem d_Md_common_52 : decode b_Md_common 52 = .ok (.aload_n 0, 1) := by decide +kernel
theorem d_Md_common_53 : decode b_Md_common 53 = .ok (.getfield 71, 3) := by decide +kernel
theorem d_Md_common_56 : decode b_Md_common 56 = .ok (.iload 4, 2) := by decide +kernel
theorem d_Md_common_58 : decode b_Md_common 58 = .ok (.iaload, 1) := by decide +kernel
theorem d_Md_common_59 : decode b_Md_common 59 = .ok (.if_icmp .ne 23, 3) := by decide +kernel
theorem d_Md_common_62 : decode b_Md_common 62 = .ok (.aload_n 0, 1) := by decide +kernel
theorem d_Md_common_63 : decode b_Md_common 63 = .ok (.getfield 74, 3) := by decide +kernel
theorem d_Md_common_66 : decode b_Md_common 66 = .ok (.iload 6, 2) := by decide +kernel
theorem d_Md_common_68 : decode b_Md_common 68 = .ok (.iaload, 1) := by decide +kernel
theorem d_Md_common_69 : decode b_Md_common 69 = .ok (.aload_n 0, 1) := by decide +kernel
theorem d_Md_common_70 : decode b_Md_common 70 = .ok (.getfield 74, 3) := by decide +kernel
theorem d_Md_common_73 : decode b_Md_common 73 = .ok (.iload 4, 2) := by decide +kernel
theorem d_Md_common_75 : decode b_Md_common 75 = .ok (.iaload, 1) := by decide +kernel
theorem d_Md_common_76 : decode b_Md_common 76 = .ok (.if_icmp .ne 6, 3) := by decide +kernel
theorem d_Md_common_79 : decode b_Md_common 79 = .ok (.iinc 5 1, 3) := by decide +kernel
theorem d_Md_common_82 : decode b_Md_common 82 = .ok (.iinc 6 1, 3) := by decide +kernel
theorem d_Md_common_85 : decode b_Md_common 85 = .ok (.goto (-68), 3) := by decide +kernel
theorem d_Md_common_88 : decode b_Md_common 88 = .ok (.iload 5, 2) := by decide +kernel
theorem d_Md_common_90 : decode b_Md_common 90 = .ok (.aload_n 0, 1) := by decide +kernel
theorem d_Md_common_91 : decode b_Md_common 91 = .ok (.getfield 90, 3) := by decide +kernel
theorem d_Md_common_94 : decode b_Md_common 94 = .ok (.if_icmp .lt 6, 3) := by decide +kernel
theorem d_Md_common_97 : decode b_Md_common 97 = .ok (.iload 4, 2) := by decide +kernel
theorem d_Md_common_99 : decode b_Md_common 99 = .ok (.ireturn, 1) := by decide +kernel
theorem d_Md_common_100 : decode b_Md_common 100 = .ok (.iinc 4 1, 3) := by decide +kernel
theorem d_Md_common_103 : decode b_Md_common 103 = .ok (.goto (-100), 3) := by decide +kernel
theorem d_Md_common_106 : decode b_Md_common 106 = .ok (.iconst (-1), 1) := by decide +kernel
theorem d_Md_common_107 : decode b_Md_common 107 = .ok (.ireturn, 1) := by decide +kernel
theorem d_Md_preaccepted_0 : decode b_Md_preaccepted 0 = .ok (.iload_n 1, 1) := by decide +kernel
theorem d_Md_preaccepted_1 : decode b_Md_preaccepted 1 = .ok (.istore_n 3, 1) := by decide +kernel
theorem d_Md_preaccepted_2 : decode b_Md_preaccepted 2 = .ok (.iload_n 3, 1) := by decide +kernel
theorem d_Md_preaccepted_3 : decode b_Md_preaccepted 3 = .ok (.iload_n 1, 1) := by decide +kernel
theorem d_Md_preaccepted_4 : decode b_Md_preaccepted 4 = .ok (.iload_n 2, 1) := by decide +kernel
theorem d_Md_preaccepted_5 : decode b_Md_preaccepted 5 = .ok (.iadd, 1) := by decide +kernel
theorem d_Md_preaccepted_6 : decode b_Md_preaccepted 6 = .ok (.if_icmp .ge 21, 3) := by decide +kernel
theorem d_Md_preaccepted_9 : decode b_Md_preaccepted 9 = .ok (.aload_n 0, 1) := by decide +kernel
theorem d_Md_preaccepted_10 : decode b_Md_preaccepted 10 = .ok (.getfield 62, 3) := by decide +kernel
theorem d_Md_preaccepted_13 : decode b_Md_preaccepted 13 = .ok (.iload_n 3, 1) := by decide +kernel
theorem d_Md_preaccepted_14 : decode b_Md_preaccepted 14 = .ok (.iaload, 1) := by decide +kernel
theorem d_Md_preaccepted_15 : decode b_Md_preaccepted 15 = .ok (.iconst 1, 1) := by decide +kernel
theorem d_Md_preaccepted_16 : decode b_Md_preaccepted 16 = .ok (.if_icmp .ne 5, 3) := by decide +kernel
theorem d_Md_preaccepted_19 : decode b_Md_preaccepted 19 = .ok (.iload_n 3, 1) := by decide +kernel
theorem d_Md_preaccepted_20 : decode b_Md_preaccepted 20 = .ok (.ireturn, 1) := by decide +kernel
theorem d_Md_preaccepted_21 : decode b_Md_preaccepted 21 = .ok (.iinc 3 1, 3) := by decide +kernel
theorem d_Md_preaccepted_24 : decode b_Md_preaccepted 24 = .ok (.goto (-22), 3) := by decide +kernel
theorem d_Md_preaccepted_27 : decode b_Md_preaccepted 27 = .ok (.iconst (-1), 1) := by decide +kernel
theorem d_Md_preaccepted_28 : decode b_Md_preaccepted 28 = .ok (.ireturn, 1) := by decide +kernel
end
section
theorem d_Md_afterPromise_0 : decode b_Md_afterPromise 0 = .ok (.bipush 30, 2) := by decide +kernel
theorem d_Md_afterPromise_2 : decode b_Md_afterPromise 2 = .ok (.iload_n 1, 1) := by decide +kernel
theorem d_Md_afterPromise_3 : decode b_Md_afterPromise 3 = .ok (.imul, 1) := by decide +kernel
theorem d_Md_afterPromise_4 : decode b_Md_afterPromise 4 = .ok (.iload_n 2, 1) := by decide +kernel
theorem d_Md_afterPromise_5 : decode b_Md_afterPromise 5 = .ok (.iadd, 1) := by decide +kernel
theorem d_Md_afterPromise_6 : decode b_Md_afterPromise 6 = .ok (.istore_n 3, 1) := by decide +kernel
theorem d_Md_afterPromise_7 : decode b_Md_afterPromise 7 = .ok (.iconst 4, 1) := by decide +kernel
theorem d_Md_afterPromise_8 : decode b_Md_afterPromise 8 = .ok (.iload_n 3, 1) := by decide +kernel
theorem d_Md_afterPromise_9 : decode b_Md_afterPromise 9 = .ok (.imul, 1) := by decide +kernel
theorem d_Md_afterPromise_10 : decode b_Md_afterPromise 10 = .ok (.istore 4, 2) := by decide +kernel
theorem d_Md_afterPromise_12 : decode b_Md_afterPromise 12 = .ok (.iload 4, 2) := by decide +kernel
theorem d_Md_afterPromise_14 : decode b_Md_afterPromise 14 = .ok (.aload_n 0, 1) := by decide +kernel
theorem d_Md_afterPromise_15 : decode b_Md_afterPromise 15 = .ok (.getfield 56, 3) := by decide +kernel
theorem d_Md_afterPromise_18 : decode b_Md_afterPromise 18 = .ok (.iload_n 3, 1) := by decide +kernel
theorem d_Md_afterPromise_19 : decode b_Md_afterPromise 19 = .ok (.iaload, 1) := by decide +kernel
theorem d_Md_afterPromise_20 : decode b_Md_afterPromise 20 = .ok (.iadd, 1) := by decide +kernel
theorem d_Md_afterPromise_21 : decode b_Md_afterPromise 21 = .ok (.istore 5, 2) := by decide +kernel
theorem d_Md_afterPromise_23 : decode b_Md_afterPromise 23 = .ok (.aload_n 0, 1) := by decide +kernel
theorem d_Md_afterPromise_24 : decode b_Md_afterPromise 24 = .ok (.getfield 59, 3) := by decide +kernel
theorem d_Md_afterPromise_27 : decode b_Md_afterPromise 27 = .ok (.iload 5, 2) := by decide +kernel
theorem d_Md_afterPromise_29 : decode b_Md_afterPromise 29 = .ok (.iload_n 1, 1) := by decide +kernel
theorem d_Md_afterPromise_30 : decode b_Md_afterPromise 30 = .ok (.iastore, 1) := by decide +kernel
theorem d_Md_afterPromise_31 : decode b_Md_afterPromise 31 = .ok (.aload_n 0, 1) := by decide +kernel
theorem d_Md_afterPromise_32 : decode b_Md_afterPromise 32 = .ok (.getfield 65, 3) := by decide +kernel
theorem d_Md_afterPromise_35 : decode b_Md_afterPromise 35 = .ok (.iload 5, 2) := by decide +kernel
theorem d_Md_afterPromise_37 : decode b_Md_afterPromise 37 = .ok (.aload_n 0, 1) := by decide +kernel
theorem d_Md_afterPromise_38 : decode b_Md_afterPromise 38 = .ok (.getfield 23, 3) := by decide +kernel
theorem d_Md_afterPromise_41 : decode b_Md_afterPromise 41 = .ok (.iload_n 3, 1) := by decide +kernel
theorem d_Md_afterPromise_42 : decode b_Md_afterPromise 42 = .ok (.iaload, 1) := by decide +kernel
theorem d_Md_afterPromise_43 : decode b_Md_afterPromise 43 = .ok (.iastore, 1) := by decide +kernel
theorem d_Md_afterPromise_44 : decode b_Md_afterPromise 44 = .ok (.aload_n 0, 1) := by decide +kernel
theorem d_Md_afterPromise_45 : decode b_Md_afterPromise 45 = .ok (.getfield 68, 3) := by decide +kernel
theorem d_Md_afterPromise_48 : decode b_Md_afterPromise 48 = .ok (.iload 5, 2) := by decide +kernel
theorem d_Md_afterPromise_50 : decode b_Md_afterPromise 50 = .ok (.aload_n 0, 1) := by decide +kernel
theorem d_Md_afterPromise_51 : decode b_Md_afterPromise 51 = .ok (.getfield 26, 3) := by decide +kernel
theorem d_Md_afterPromise_54 : decode b_Md_afterPromise 54 = .ok (.iload_n 3, 1) := by decide +kernel
theorem d_Md_afterPromise_55 : decode b_Md_afterPromise 55 = .ok (.iaload, 1) := by decide +kernel
theorem d_Md_afterPromise_56 : decode b_Md_afterPromise 56 = .ok (.iastore, 1) := by decide +kernel
theorem d_Md_afterPromise_57 : decode b_Md_afterPromise 57 = .ok (.aload_n 0, 1) := by decide +kernel
theorem d_Md_afterPromise_58 : decode b_Md_afterPromise 58 = .ok (.getfield 71, 3) := by decide +kernel
theorem d_Md_afterPromise_61 : decode b_Md_afterPromise 61 = .ok (.iload 5, 2) := by decide +kernel
theorem d_Md_afterPromise_63 : decode b_Md_afterPromise 63 = .ok (.aload_n 0, 1) := by decide +kernel
theorem d_Md_afterPromise_64 : decode b_Md_afterPromise 64 = .ok (.getfield 29, 3) := by decide +kernel
theorem d_Md_afterPromise_67 : decode b_Md_afterPromise 67 = .ok (.iload_n 3, 1) := by decide +kernel
theorem d_Md_afterPromise_68 : decode b_Md_afterPromise 68 = .ok (.iaload, 1) := by decide +kernel
theorem d_Md_afterPromise_69 : decode b_Md_afterPromise 69 = .ok (.iastore, 1) := by decide +kernel
theorem d_Md_afterPromise_70 : decode b_Md_afterPromise 70 = .ok (.aload_n 0, 1) := by decide +kernel
theorem d_Md_afterPromise_71 : decode b_Md_afterPromise 71 = .ok (.getfield 74, 3) := by decide +kernel
theorem d_Md_afterPromise_74 : decode b_Md_afterPromise 74 = .ok (.iload 5, 2) := by decide +kernel
theorem d_Md_afterPromise_76 : decode b_Md_afterPromise 76 = .ok (.aload_n 0, 1) := by decide +kernel
theorem d_Md_afterPromise_77 : decode b_Md_afterPromise 77 = .ok (.getfield 32, 3) := by decide +kernel
theorem d_Md_afterPromise_80 : decode b_Md_afterPromise 80 = .ok (.iload_n 3, 1) := by decide +kernel
theorem d_Md_afterPromise_81 : decode b_Md_afterPromise 81 = .ok (.iaload, 1) := by decide +kernel
theorem d_Md_afterPromise_82 : decode b_Md_afterPromise 82 = .ok (.iastore, 1) := by decide +kernel
theorem d_Md_afterPromise_83 : decode b_Md_afterPromise 83 = .ok (.aload_n 0, 1) := by decide +kernel
theorem d_Md_afterPromise_84 : decode b_Md_afterPromise 84 = .ok (.getfield 62, 3) := by decide +kernel
theorem d_Md_afterPromise_87 : decode b_Md_afterPromise 87 = .ok (.iload 5, 2) := by decide +kernel
theorem d_Md_afterPromise_89 : decode b_Md_afterPromise 89 = .ok (.aload_n 0, 1) := by decide +kernel
theorem d_Md_afterPromise_90 : decode b_Md_afterPromise 90 = .ok (.getfield 20, 3) := by decide +kernel
theorem d_Md_afterPromise_93 : decode b_Md_afterPromise 93 = .ok (.iload_n 3, 1) := by decide +kernel
theorem d_Md_afterPromise_94 : decode b_Md_afterPromise 94 = .ok (.iaload, 1) := by decide +kernel
theorem d_Md_afterPromise_95 : decode b_Md_afterPromise 95 = .ok (.iastore, 1) := by decide +kernel
theorem d_Md_afterPromise_96 : decode b_Md_afterPromise 96 = .ok (.aload_n 0, 1) := by decide +kernel
theorem d_Md_afterPromise_97 : decode b_Md_afterPromise 97 = .ok (.getfield 77, 3) := by decide +kernel
theorem d_Md_afterPromise_100 : decode b_Md_afterPromise 100 = .ok (.iload 5, 2) := by decide +kernel
theorem d_Md_afterPromise_102 : decode b_Md_afterPromise 102 = .ok (.aload_n 0, 1) := by decide +kernel
theorem d_Md_afterPromise_103 : decode b_Md_afterPromise 103 = .ok (.getfield 38, 3) := by decide +kernel
theorem d_Md_afterPromise_106 : decode b_Md_afterPromise 106 = .ok (.iload_n 3, 1) := by decide +kernel
theorem d_Md_afterPromise_107 : decode b_Md_afterPromise 107 = .ok (.iaload, 1) := by decide +kernel
theorem d_Md_afterPromise_108 : decode b_Md_afterPromise 108 = .ok (.iastore, 1) := by decide +kernel
theorem d_Md_afterPromise_109 : decode b_Md_afterPromise 109 = .ok (.aload_n 0, 1) := by decide +kernel
theorem d_Md_afterPromise_110 : decode b_Md_afterPromise 110 = .ok (.iload 4, 2) := by decide +kernel
theorem d_Md_afterPromise_112 : decode b_Md_afterPromise 112 = .ok (.aload_n 0, 1) := by decide +kernel
theorem d_Md_afterPromise_113 : decode b_Md_afterPromise 113 = .ok (.getfield 90, 3) := by decide +kernel
theorem d_Md_afterPromise_116 : decode b_Md_afterPromise 116 = .ok (.iconst 1, 1) := by decide +kernel
theorem d_Md_afterPromise_117 : decode b_Md_afterPromise 117 = .ok (.iadd, 1) := by decide +kernel
theorem d_Md_afterPromise_118 : decode b_Md_afterPromise 118 = .ok (.invokevirtual 167, 3) := by decide +kernel
theorem d_Md_afterPromise_121 : decode b_Md_afterPromise 121 = .ok (.istore 6, 2) := by decide +kernel
theorem d_Md_afterPromise_123 : decode b_Md_afterPromise 123 = .ok (.iload 6, 2) := by decide +kernel
theorem d_Md_afterPromise_125 : decode b_Md_afterPromise 125 = .ok (.ifCond .ge 18, 3) := by decide +kernel
theorem d_Md_afterPromise_128 : decode b_Md_afterPromise 128 = .ok (.aload_n 0, 1) := by decide +kernel
theorem d_Md_afterPromise_129 : decode b_Md_afterPromise 129 = .ok (.iload 4, 2) := by decide +kernel
theorem d_Md_afterPromise_131 : decode b_Md_afterPromise 131 = .ok (.aload_n 0, 1) := by decide +kernel
theorem d_Md_afterPromise_132 : decode b_Md_afterPromise 132 = .ok (.getfield 90, 3) := by decide +kernel
theorem d_Md_afterPromise_135 : decode b_Md_afterPromise 135 = .ok (.iconst 1, 1) := by decide +kernel
theorem d_Md_afterPromise_136 : decode b_Md_afterPromise 136 = .ok (.iadd, 1) := by decide +kernel
theorem d_Md_afterPromise_137 : decode b_Md_afterPromise 137 = .ok (.iload_n 2, 1) := by decide +kernel
theorem d_Md_afterPromise_138 : decode b_Md_afterPromise 138 = .ok (.invokevirtual 171, 3) := by decide +kernel
theorem d_Md_afterPromise_141 : decode b_Md_afterPromise 141 = .ok (.istore 6, 2) := by decide +kernel
theorem d_Md_afterPromise_143 : decode b_Md_afterPromise 143 = .ok (.iload 6, 2) := by decide +kernel
theorem d_Md_afterPromise_145 : decode b_Md_afterPromise 145 = .ok (.ifCond .lt 38, 3) := by decide +kernel
theorem d_Md_afterPromise_148 : decode b_Md_afterPromise 148 = .ok (.aload_n 0, 1) := by decide +kernel
theorem d_Md_afterPromise_149 : decode b_Md_afterPromise 149 = .ok (.iload_n 1, 1) := by decide +kernel
theorem d_Md_afterPromise_150 : decode b_Md_afterPromise 150 = .ok (.iload_n 2, 1) := by decide +kernel
theorem d_Md_afterPromise_151 : decode b_Md_afterPromise 151 = .ok (.aload_n 0, 1) := by decide +kernel
theorem d_Md_afterPromise_152 : decode b_Md_afterPromise 152 = .ok (.getfield 65, 3) := by decide +kernel
theorem d_Md_afterPromise_155 : decode b_Md_afterPromise 155 = .ok (.iload 6, 2) := by decide +kernel
theorem d_Md_afterPromise_157 : decode b_Md_afterPromise 157 = .ok (.iaload, 1) := by decide +kernel
theorem d_Md_afterPromise_158 : decode b_Md_afterPromise 158 = .ok (.aload_n 0, 1) := by decide +kernel
theorem d_Md_afterPromise_159 : decode b_Md_afterPromise 159 = .ok (.getfield 68, 3) := by decide +kernel
theorem d_Md_afterPromise_162 : decode b_Md_afterPromise 162 = .ok (.iload 6, 2) := by decide +kernel
theorem d_Md_afterPromise_164 : decode b_Md_afterPromise 164 = .ok (.iaload, 1) := by decide +kernel
theorem d_Md_afterPromise_165 : decode b_Md_afterPromise 165 = .ok (.aload_n 0, 1) := by decide +kernel
theorem d_Md_afterPromise_166 : decode b_Md_afterPromise 166 = .ok (.getfield 71, 3) := by decide +kernel
theorem d_Md_afterPromise_169 : decode b_Md_afterPromise 169 = .ok (.iload 6, 2) := by decide +kernel
theorem d_Md_afterPromise_171 : decode b_Md_afterPromise 171 = .ok (.iaload, 1) := by decide +kernel
theorem d_Md_afterPromise_172 : decode b_Md_afterPromise 172 = .ok (.aload_n 0, 1) := by decide +kernel
theorem d_Md_afterPromise_173 : decode b_Md_afterPromise 173 = .ok (.getfield 74, 3) := by decide +kernel
theorem d_Md_afterPromise_176 : decode b_Md_afterPromise 176 = .ok (.iload 6, 2) := by decide +kernel
theorem d_Md_afterPromise_178 : decode b_Md_afterPromise 178 = .ok (.iaload, 1) := by decide +kernel
theorem d_Md_afterPromise_179 : decode b_Md_afterPromise 179 = .ok (.invokevirtual 155, 3) := by decide +kernel
theorem d_Md_afterPromise_182 : decode b_Md_afterPromise 182 = .ok (.return_, 1) := by decide +kernel
theorem d_Md_afterPromise_183 : decode b_Md_afterPromise 183 = .ok (.aload_n 0, 1) := by decide +kernel
theorem d_Md_afterPromise_184 : decode b_Md_afterPromise 184 = .ok (.iload 4, 2) := by decide +kernel
theorem d_Md_afterPromise_186 : decode b_Md_afterPromise 186 = .ok (.aload_n 0, 1) := by decide +kernel
theorem d_Md_afterPromise_187 : decode b_Md_afterPromise 187 = .ok (.getfield 90, 3) := by decide +kernel
theorem d_Md_afterPromise_190 : decode b_Md_afterPromise 190 = .ok (.iconst 1, 1) := by decide +kernel
theorem d_Md_afterPromise_191 : decode b_Md_afterPromise 191 = .ok (.iadd, 1) := by decide +kernel
theorem d_Md_afterPromise_192 : decode b_Md_afterPromise 192 = .ok (.invokevirtual 175, 3) := by decide +kernel
theorem d_Md_afterPromise_195 : decode b_Md_afterPromise 195 = .ok (.istore 6, 2) := by decide +kernel
theorem d_Md_afterPromise_197 : decode b_Md_afterPromise 197 = .ok (.iload 6, 2) := by decide +kernel
theorem d_Md_afterPromise_199 : decode b_Md_afterPromise 199 = .ok (.ifCond .ge 15, 3) := by decide +kernel
theorem d_Md_afterPromise_202 : decode b_Md_afterPromise 202 = .ok (.aload_n 0, 1) := by decide +kernel
theorem d_Md_afterPromise_203 : decode b_Md_afterPromise 203 = .ok (.iload_n 1, 1) := by decide +kernel
theorem d_Md_afterPromise_204 : decode b_Md_afterPromise 204 = .ok (.iload_n 2, 1) := by decide +kernel
theorem d_Md_afterPromise_205 : decode b_Md_afterPromise 205 = .ok (.bipush 8, 2) := by decide +kernel
theorem d_Md_afterPromise_207 : decode b_Md_afterPromise 207 = .ok (.iconst 0, 1) := by decide +kernel
theorem d_Md_afterPromise_208 : decode b_Md_afterPromise 208 = .ok (.iconst 0, 1) := by decide +kernel
theorem d_Md_afterPromise_209 : decode b_Md_afterPromise 209 = .ok (.iconst 0, 1) := by decide +kernel
theorem d_Md_afterPromise_210 : decode b_Md_afterPromise 210 = .ok (.invokevirtual 155, 3) := by decide +kernel
theorem d_Md_afterPromise_213 : decode b_Md_afterPromise 213 = .ok (.return_, 1) := by decide +kernel
theorem d_Md_afterPromise_214 : decode b_Md_afterPromise 214 = .ok (.aload_n 0, 1) := by decide +kernel
theorem d_Md_afterPromise_215 : decode b_Md_afterPromise 215 = .ok (.iload_n 1, 1) := by decide +kernel
theorem d_Md_afterPromise_216 : decode b_Md_afterPromise 216 = .ok (.iload_n 2, 1) := by decide +kernel
theorem d_Md_afterPromise_217 : decode b_Md_afterPromise 217 = .ok (.aload_n 0, 1) := by decide +kernel
theorem d_Md_afterPromise_218 : decode b_Md_afterPromise 218 = .ok (.getfield 65, 3) := by decide +kernel
theorem d_Md_afterPromise_221 : decode b_Md_afterPromise 221 = .ok (.iload 6, 2) := by decide +kernel
theorem d_Md_afterPromise_223 : decode b_Md_afterPromise 223 = .ok (.iaload, 1) := by decide +kernel
theorem d_Md_afterPromise_224 : decode b_Md_afterPromise 224 = .ok (.aload_n 0, 1) := by decide +kernel
theorem d_Md_afterPromise_225 : decode b_Md_afterPromise 225 = .ok (.getfield 68, 3) := by decide +kernel
theorem d_Md_afterPromise_228 : decode b_Md_afterPromise 228 = .ok (.iload 6, 2) := by decide +kernel
theorem d_Md_afterPromise_230 : decode b_Md_afterPromise 230 = .ok (.iaload, 1) := by decide +kernel
theorem d_Md_afterPromise_231 : decode b_Md_afterPromise 231 = .ok (.iconst 1, 1) := by decide +kernel
theorem d_Md_afterPromise_232 : decode b_Md_afterPromise 232 = .ok (.iconst 0, 1) := by decide +kernel
theorem d_Md_afterPromise_233 : decode b_Md_afterPromise 233 = .ok (.invokevirtual 151, 3) := by decide +kernel
theorem d_Md_afterPromise_236 : decode b_Md_afterPromise 236 = .ok (.aload_n 0, 1) := by decide +kernel
theorem d_Md_afterPromise_237 : decode b_Md_afterPromise 237 = .ok (.getfield 38, 3) := by decide +kernel
theorem d_Md_afterPromise_240 : decode b_Md_afterPromise 240 = .ok (.iload_n 3, 1) := by decide +kernel
theorem d_Md_afterPromise_241 : decode b_Md_afterPromise 241 = .ok (.aload_n 0, 1) := by decide +kernel
theorem d_Md_afterPromise_242 : decode b_Md_afterPromise 242 = .ok (.getfield 53, 3) := by decide +kernel
theorem d_Md_afterPromise_245 : decode b_Md_afterPromise 245 = .ok (.iload_n 3, 1) := by decide +kernel
theorem d_Md_afterPromise_246 : decode b_Md_afterPromise 246 = .ok (.iaload, 1) := by decide +kernel
theorem d_Md_afterPromise_247 : decode b_Md_afterPromise 247 = .ok (.iastore, 1) := by decide +kernel
theorem d_Md_afterPromise_248 : decode b_Md_afterPromise 248 = .ok (.aload_n 0, 1) := by decide +kernel
theorem d_Md_afterPromise_249 : decode b_Md_afterPromise 249 = .ok (.iload_n 3, 1) := by decide +kernel
theorem d_Md_afterPromise_250 : decode b_Md_afterPromise 250 = .ok (.iconst 1, 1) := by decide +kernel
theorem d_Md_afterPromise_251 : decode b_Md_afterPromise 251 = .ok (.aload_n 0, 1) := by decide +kernel
theorem d_Md_afterPromise_252 : decode b_Md_afterPromise 252 = .ok (.getfield 53, 3) := by decide +kernel
theorem d_Md_afterPromise_255 : decode b_Md_afterPromise 255 = .ok (.iload_n 3, 1) := by decide +kernel
theorem d_Md_afterPromise_256 : decode b_Md_afterPromise 256 = .ok (.iaload, 1) := by decide +kernel
theorem d_Md_afterPromise_257 : decode b_Md_afterPromise 257 = .ok (.invokevirtual 158, 3) := by decide +kernel
theorem d_Md_afterPromise_260 : decode b_Md_afterPromise 260 = .ok (.aload_n 0, 1) := by decide +kernel
theorem d_Md_afterPromise_261 : decode b_Md_afterPromise 261 = .ok (.iconst 0, 1) := by decide +kernel
theorem d_Md_afterPromise_262 : decode b_Md_afterPromise 262 = .ok (.iload_n 1, 1) := by decide +kernel
theorem d_Md_afterPromise_263 : decode b_Md_afterPromise 263 = .ok (.iload_n 2, 1) := by decide +kernel
theorem d_Md_afterPromise_264 : decode b_Md_afterPromise 264 = .ok (.aload_n 0, 1) := by decide +kernel
theorem d_Md_afterPromise_265 : decode b_Md_afterPromise 265 = .ok (.getfield 53, 3) := by decide +kernel
theorem d_Md_afterPromise_268 : decode b_Md_afterPromise 268 = .ok (.iload_n 3, 1) := by decide +kernel
theorem d_Md_afterPromise_269 : decode b_Md_afterPromise 269 = .ok (.iaload, 1) := by decide +kernel
theorem d_Md_afterPromise_270 : decode b_Md_afterPromise 270 = .ok (.invokevirtual 161, 3) := by decide +kernel
theorem d_Md_afterPromise_273 : decode b_Md_afterPromise 273 = .ok (.return_, 1) := by decide +kernel
theorem d_Md_receive_0 : decode b_Md_receive 0 = .ok (.bipush 30, 2) := by decide +kernel
theorem d_Md_receive_2 : decode b_Md_receive 2 = .ok (.iload_n 2, 1) := by decide +kernel
theorem d_Md_receive_3 : decode b_Md_receive 3 = .ok (.imul, 1) := by decide +kernel
theorem d_Md_receive_4 : decode b_Md_receive 4 = .ok (.iload 4, 2) := by decide +kernel
theorem d_Md_receive_6 : decode b_Md_receive 6 = .ok (.iadd, 1) := by decide +kernel
theorem d_Md_receive_7 : decode b_Md_receive 7 = .ok (.istore 5, 2) := by decide +kernel
theorem d_Md_receive_9 : decode b_Md_receive 9 = .ok (.iload_n 1, 1) := by decide +kernel
theorem d_Md_receive_10 : decode b_Md_receive 10 = .ok (.ifCond .eq 13, 3) := by decide +kernel
theorem d_Md_receive_13 : decode b_Md_receive 13 = .ok (.iload_n 1, 1) := by decide +kernel
theorem d_Md_receive_14 : decode b_Md_receive 14 = .ok (.iconst 2, 1) := by decide +kernel
theorem d_Md_receive_15 : decode b_Md_receive 15 = .ok (.if_icmp .eq 8, 3) := by decide +kernel
theorem d_Md_receive_18 : decode b_Md_receive 18 = .ok (.iload_n 1, 1) := by decide +kernel
theorem d_Md_receive_19 : decode b_Md_receive 19 = .ok (.iconst 5, 1) := by decide +kernel
theorem d_Md_receive_20 : decode b_Md_receive 20 = .ok (.if_icmp .ne 7, 3) := by decide +kernel
theorem d_Md_receive_23 : decode b_Md_receive 23 = .ok (.iconst 1, 1) := by decide +kernel
theorem d_Md_receive_24 : decode b_Md_receive 24 = .ok (.goto 4, 3) := by decide +kernel
theorem d_Md_receive_27 : decode b_Md_receive 27 = .ok (.iconst 0, 1) := by decide +kernel
theorem d_Md_receive_28 : decode b_Md_receive 28 = .ok (.istore 6, 2) := by decide +kernel
theorem d_Md_receive_30 : decode b_Md_receive 30 = .ok (.iload 6, 2) := by decide +kernel
theorem d_Md_receive_32 : decode b_Md_receive 32 = .ok (.ifCond .eq 25, 3) := by decide +kernel
theorem d_Md_receive_35 : decode b_Md_receive 35 = .ok (.aload_n 0, 1) := by decide +kernel
theorem d_Md_receive_36 : decode b_Md_receive 36 = .ok (.getfield 20, 3) := by decide +kernel
theorem d_Md_receive_39 : decode b_Md_receive 39 = .ok (.iload 5, 2) := by decide +kernel
theorem d_Md_receive_41 : decode b_Md_receive 41 = .ok (.iaload, 1) := by decide +kernel
theorem d_Md_receive_42 : decode b_Md_receive 42 = .ok (.iconst 3, 1) := by decide +kernel
theorem d_Md_receive_43 : decode b_Md_receive 43 = .ok (.if_icmp .lt 14, 3) := by decide +kernel
theorem d_Md_receive_46 : decode b_Md_receive 46 = .ok (.aload_n 0, 1) := by decide +kernel
theorem d_Md_receive_47 : decode b_Md_receive 47 = .ok (.iconst 4, 1) := by decide +kernel
theorem d_Md_receive_48 : decode b_Md_receive 48 = .ok (.iload_n 2, 1) := by decide +kernel
theorem d_Md_receive_49 : decode b_Md_receive 49 = .ok (.iload_n 3, 1) := by decide +kernel
theorem d_Md_receive_50 : decode b_Md_receive 50 = .ok (.iload 4, 2) := by decide +kernel
theorem d_Md_receive_52 : decode b_Md_receive 52 = .ok (.iconst 0, 1) := by decide +kernel
theorem d_Md_receive_53 : decode b_Md_receive 53 = .ok (.invokevirtual 114, 3) := by decide +kernel
theorem d_Md_receive_56 : decode b_Md_receive 56 = .ok (.return_, 1) := by decide +kernel
theorem d_Md_receive_57 : decode b_Md_receive 57 = .ok (.iload_n 1, 1) := by decide +kernel
theorem d_Md_receive_58 : decode b_Md_receive 58 = .ok (.ifCond .ne 11, 3) := by decide +kernel
theorem d_Md_receive_61 : decode b_Md_receive 61 = .ok (.aload_n 0, 1) := by decide +kernel
theorem d_Md_receive_62 : decode b_Md_receive 62 = .ok (.iload_n 2, 1) := by decide +kernel
theorem d_Md_receive_63 : decode b_Md_receive 63 = .ok (.iload_n 3, 1) := by decide +kernel
theorem d_Md_receive_64 : decode b_Md_receive 64 = .ok (.iload 4, 2) := by decide +kernel
theorem d_Md_receive_66 : decode b_Md_receive 66 = .ok (.invokevirtual 125, 3) := by decide +kernel
theorem d_Md_receive_69 : decode b_Md_receive 69 = .ok (.iload_n 1, 1) := by decide +kernel
theorem d_Md_receive_70 : decode b_Md_receive 70 = .ok (.iconst 2, 1) := by decide +kernel
theorem d_Md_receive_71 : decode b_Md_receive 71 = .ok (.if_icmp .ne 11, 3) := by decide +kernel
theorem d_Md_receive_74 : decode b_Md_receive 74 = .ok (.aload_n 0, 1) := by decide +kernel
theorem d_Md_receive_75 : decode b_Md_receive 75 = .ok (.iload_n 2, 1) := by decide +kernel
theorem d_Md_receive_76 : decode b_Md_receive 76 = .ok (.iload_n 3, 1) := by decide +kernel
theorem d_Md_receive_77 : decode b_Md_receive 77 = .ok (.iload 4, 2) := by decide +kernel
theorem d_Md_receive_79 : decode b_Md_receive 79 = .ok (.invokevirtual 129, 3) := by decide +kernel
theorem d_Md_receive_82 : decode b_Md_receive 82 = .ok (.iload_n 1, 1) := by decide +kernel
theorem d_Md_receive_83 : decode b_Md_receive 83 = .ok (.iconst 5, 1) := by decide +kernel
theorem d_Md_receive_84 : decode b_Md_receive 84 = .ok (.if_icmp .ne 11, 3) := by decide +kernel
theorem d_Md_receive_87 : decode b_Md_receive 87 = .ok (.aload_n 0, 1) := by decide +kernel
theorem d_Md_receive_88 : decode b_Md_receive 88 = .ok (.iload_n 2, 1) := by decide +kernel
theorem d_Md_receive_89 : decode b_Md_receive 89 = .ok (.iload_n 3, 1) := by decide +kernel
theorem d_Md_receive_90 : decode b_Md_receive 90 = .ok (.iload 4, 2) := by decide +kernel
theorem d_Md_receive_92 : decode b_Md_receive 92 = .ok (.invokevirtual 132, 3) := by decide +kernel
theorem d_Md_receive_95 : decode b_Md_receive 95 = .ok (.iload_n 1, 1) := by decide +kernel
theorem d_Md_receive_96 : decode b_Md_receive 96 = .ok (.iconst 4, 1) := by decide +kernel
theorem d_Md_receive_97 : decode b_Md_receive 97 = .ok (.if_icmp .ne 20, 3) := by decide +kernel
theorem d_Md_receive_100 : decode b_Md_receive 100 = .ok (.aload_n 0, 1) := by decide +kernel
theorem d_Md_receive_101 : decode b_Md_receive 101 = .ok (.getfield 20, 3) := by decide +kernel
theorem d_Md_receive_104 : decode b_Md_receive 104 = .ok (.iload 5, 2) := by decide +kernel
theorem d_Md_receive_106 : decode b_Md_receive 106 = .ok (.iaload, 1) := by decide +kernel
theorem d_Md_receive_107 : decode b_Md_receive 107 = .ok (.iconst 3, 1) := by decide +kernel
theorem d_Md_receive_108 : decode b_Md_receive 108 = .ok (.if_icmp .ge 9, 3) := by decide +kernel
theorem d_Md_receive_111 : decode b_Md_receive 111 = .ok (.aload_n 0, 1) := by decide +kernel
theorem d_Md_receive_112 : decode b_Md_receive 112 = .ok (.iload 5, 2) := by decide +kernel
theorem d_Md_receive_114 : decode b_Md_receive 114 = .ok (.invokevirtual 135, 3) := by decide +kernel
theorem d_Md_receive_117 : decode b_Md_receive 117 = .ok (.iload_n 1, 1) := by decide +kernel
theorem d_Md_receive_118 : decode b_Md_receive 118 = .ok (.iconst 1, 1) := by decide +kernel
theorem d_Md_receive_119 : decode b_Md_receive 119 = .ok (.if_icmp .ne 20, 3) := by decide +kernel
theorem d_Md_receive_122 : decode b_Md_receive 122 = .ok (.aload_n 0, 1) := by decide +kernel
theorem d_Md_receive_123 : decode b_Md_receive 123 = .ok (.iload 5, 2) := by decide +kernel
theorem d_Md_receive_125 : decode b_Md_receive 125 = .ok (.iconst 1, 1) := by decide +kernel
theorem d_Md_receive_126 : decode b_Md_receive 126 = .ok (.invokevirtual 138, 3) := by decide +kernel
theorem d_Md_receive_129 : decode b_Md_receive 129 = .ok (.ifCond .eq 10, 3) := by decide +kernel
theorem d_Md_receive_132 : decode b_Md_receive 132 = .ok (.aload_n 0, 1) := by decide +kernel
theorem d_Md_receive_133 : decode b_Md_receive 133 = .ok (.iload_n 2, 1) := by decide +kernel
theorem d_Md_receive_134 : decode b_Md_receive 134 = .ok (.iload 4, 2) := by decide +kernel
theorem d_Md_receive_136 : decode b_Md_receive 136 = .ok (.invokevirtual 141, 3) := by decide +kernel
theorem d_Md_receive_139 : decode b_Md_receive 139 = .ok (.iload_n 1, 1) := by decide +kernel
theorem d_Md_receive_140 : decode b_Md_receive 140 = .ok (.iconst 3, 1) := by decide +kernel
theorem d_Md_receive_141 : decode b_Md_receive 141 = .ok (.if_icmp .ne 48, 3) := by decide +kernel
theorem d_Md_receive_144 : decode b_Md_receive 144 = .ok (.aload_n 0, 1) := by decide +kernel
theorem d_Md_receive_145 : decode b_Md_receive 145 = .ok (.iload 5, 2) := by decide +kernel
theorem d_Md_receive_147 : decode b_Md_receive 147 = .ok (.iconst 2, 1) := by decide +kernel
theorem d_Md_receive_148 : decode b_Md_receive 148 = .ok (.invokevirtual 138, 3) := by decide +kernel
theorem d_Md_receive_151 : decode b_Md_receive 151 = .ok (.ifCond .eq 38, 3) := by decide +kernel
theorem d_Md_receive_154 : decode b_Md_receive 154 = .ok (.aload_n 0, 1) := by decide +kernel
theorem d_Md_receive_155 : decode b_Md_receive 155 = .ok (.getfield 56, 3) := by decide +kernel
theorem d_Md_receive_158 : decode b_Md_receive 158 = .ok (.iload 5, 2) := by decide +kernel
theorem d_Md_receive_160 : decode b_Md_receive 160 = .ok (.iaload, 1) := by decide +kernel
theorem d_Md_receive_161 : decode b_Md_receive 161 = .ok (.aload_n 0, 1) := by decide +kernel
theorem d_Md_receive_162 : decode b_Md_receive 162 = .ok (.getfield 90, 3) := by decide +kernel
theorem d_Md_receive_165 : decode b_Md_receive 165 = .ok (.if_icmp .ne 24, 3) := by decide +kernel
theorem d_Md_receive_168 : decode b_Md_receive 168 = .ok (.aload_n 0, 1) := by decide +kernel
theorem d_Md_receive_169 : decode b_Md_receive 169 = .ok (.iload_n 2, 1) := by decide +kernel
theorem d_Md_receive_170 : decode b_Md_receive 170 = .ok (.iload 4, 2) := by decide +kernel
theorem d_Md_receive_172 : decode b_Md_receive 172 = .ok (.aload_n 0, 1) := by decide +kernel
theorem d_Md_receive_173 : decode b_Md_receive 173 = .ok (.getfield 29, 3) := by decide +kernel
theorem d_Md_receive_176 : decode b_Md_receive 176 = .ok (.iload 5, 2) := by decide +kernel
theorem d_Md_receive_178 : decode b_Md_receive 178 = .ok (.iaload, 1) := by decide +kernel
theorem d_Md_receive_179 : decode b_Md_receive 179 = .ok (.aload_n 0, 1) := by decide +kernel
theorem d_Md_receive_180 : decode b_Md_receive 180 = .ok (.getfield 32, 3) := by decide +kernel
theorem d_Md_receive_183 : decode b_Md_receive 183 = .ok (.iload 5, 2) := by decide +kernel
theorem d_Md_receive_185 : decode b_Md_receive 185 = .ok (.iaload, 1) := by decide +kernel
theorem d_Md_receive_186 : decode b_Md_receive 186 = .ok (.invokevirtual 145, 3) := by decide +kernel
theorem d_Md_receive_189 : decode b_Md_receive 189 = .ok (.iload_n 1, 1) := by decide +kernel
theorem d_Md_receive_190 : decode b_Md_receive 190 = .ok (.bipush 6, 2) := by decide +kernel
theorem d_Md_receive_192 : decode b_Md_receive 192 = .ok (.if_icmp .ne 34, 3) := by decide +kernel
theorem d_Md_receive_195 : decode b_Md_receive 195 = .ok (.aload_n 0, 1) := by decide +kernel
theorem d_Md_receive_196 : decode b_Md_receive 196 = .ok (.iload 5, 2) := by decide +kernel
theorem d_Md_receive_198 : decode b_Md_receive 198 = .ok (.iconst 3, 1) := by decide +kernel
theorem d_Md_receive_199 : decode b_Md_receive 199 = .ok (.invokevirtual 138, 3) := by decide +kernel
theorem d_Md_receive_202 : decode b_Md_receive 202 = .ok (.ifCond .eq 24, 3) := by decide +kernel
theorem d_Md_receive_205 : decode b_Md_receive 205 = .ok (.aload_n 0, 1) := by decide +kernel
theorem d_Md_receive_206 : decode b_Md_receive 206 = .ok (.getfield 56, 3) := by decide +kernel
theorem d_Md_receive_209 : decode b_Md_receive 209 = .ok (.iload 5, 2) := by decide +kernel
theorem d_Md_receive_211 : decode b_Md_receive 211 = .ok (.iaload, 1) := by decide +kernel
theorem d_Md_receive_212 : decode b_Md_receive 212 = .ok (.aload_n 0, 1) := by decide +kernel
theorem d_Md_receive_213 : decode b_Md_receive 213 = .ok (.getfield 90, 3) := by decide +kernel
theorem d_Md_receive_216 : decode b_Md_receive 216 = .ok (.if_icmp .ne 10, 3) := by decide +kernel
theorem d_Md_receive_219 : decode b_Md_receive 219 = .ok (.aload_n 0, 1) := by decide +kernel
theorem d_Md_receive_220 : decode b_Md_receive 220 = .ok (.iload_n 2, 1) := by decide +kernel
theorem d_Md_receive_221 : decode b_Md_receive 221 = .ok (.iload 4, 2) := by decide +kernel
theorem d_Md_receive_223 : decode b_Md_receive 223 = .ok (.invokevirtual 148, 3) := by decide +kernel
theorem d_Md_receive_226 : decode b_Md_receive 226 = .ok (.return_, 1) := by decide +kernel
theorem d_Md_deliver_0 : decode b_Md_deliver 0 = .ok (.iload_n 1, 1) := by decide +kernel
theorem d_Md_deliver_1 : decode b_Md_deliver 1 = .ok (.ifCond .lt 11, 3) := by decide +kernel
theorem d_Md_deliver_4 : decode b_Md_deliver 4 = .ok (.iload_n 1, 1) := by decide +kernel
theorem d_Md_deliver_5 : decode b_Md_deliver 5 = .ok (.aload_n 0, 1) := by decide +kernel
theorem d_Md_deliver_6 : decode b_Md_deliver 6 = .ok (.getfield 108, 3) := by decide +kernel
theorem d_Md_deliver_9 : decode b_Md_deliver 9 = .ok (.if_icmp .lt 5, 3) := by decide +kernel
theorem d_Md_deliver_12 : decode b_Md_deliver 12 = .ok (.iconst (-1), 1) := by decide +kernel
theorem d_Md_deliver_13 : decode b_Md_deliver 13 = .ok (.ireturn, 1) := by decide +kernel
theorem d_Md_deliver_14 : decode b_Md_deliver 14 = .ok (.aload_n 0, 1) := by decide +kernel
theorem d_Md_deliver_15 : decode b_Md_deliver 15 = .ok (.iload_n 1, 1) := by decide +kernel
theorem d_Md_deliver_16 : decode b_Md_deliver 16 = .ok (.invokevirtual 118, 3) := by decide +kernel
theorem d_Md_deliver_19 : decode b_Md_deliver 19 = .ok (.aload_n 0, 1) := by decide +kernel
theorem d_Md_deliver_20 : decode b_Md_deliver 20 = .ok (.getfield 80, 3) := by decide +kernel
theorem d_Md_deliver_23 : decode b_Md_deliver 23 = .ok (.sipush 440, 3) := by decide +kernel
theorem d_Md_deliver_26 : decode b_Md_deliver 26 = .ok (.iaload, 1) := by decide +kernel
theorem d_Md_deliver_27 : decode b_Md_deliver 27 = .ok (.istore_n 2, 1) := by decide +kernel
theorem d_Md_deliver_28 : decode b_Md_deliver 28 = .ok (.aload_n 0, 1) := by decide +kernel
theorem d_Md_deliver_29 : decode b_Md_deliver 29 = .ok (.getfield 7, 3) := by decide +kernel
theorem d_Md_deliver_32 : decode b_Md_deliver 32 = .ok (.aload_n 0, 1) := by decide +kernel
theorem d_Md_deliver_33 : decode b_Md_deliver 33 = .ok (.getfield 80, 3) := by decide +kernel
theorem d_Md_deliver_36 : decode b_Md_deliver 36 = .ok (.sipush 442, 3) := by decide +kernel
theorem d_Md_deliver_39 : decode b_Md_deliver 39 = .ok (.iaload, 1) := by decide +kernel
theorem d_Md_deliver_40 : decode b_Md_deliver 40 = .ok (.baload, 1) := by decide +kernel
theorem d_Md_deliver_41 : decode b_Md_deliver 41 = .ok (.ifCond .ne 32, 3) := by decide +kernel
theorem d_Md_deliver_44 : decode b_Md_deliver 44 = .ok (.aload_n 0, 1) := by decide +kernel
theorem d_Md_deliver_45 : decode b_Md_deliver 45 = .ok (.iload_n 2, 1) := by decide +kernel
theorem d_Md_deliver_46 : decode b_Md_deliver 46 = .ok (.aload_n 0, 1) := by decide +kernel
theorem d_Md_deliver_47 : decode b_Md_deliver 47 = .ok (.getfield 80, 3) := by decide +kernel
theorem d_Md_deliver_50 : decode b_Md_deliver 50 = .ok (.sipush 442, 3) := by decide +kernel
theorem d_Md_deliver_53 : decode b_Md_deliver 53 = .ok (.iaload, 1) := by decide +kernel
theorem d_Md_deliver_54 : decode b_Md_deliver 54 = .ok (.aload_n 0, 1) := by decide +kernel
theorem d_Md_deliver_55 : decode b_Md_deliver 55 = .ok (.getfield 80, 3) := by decide +kernel
theorem d_Md_deliver_58 : decode b_Md_deliver 58 = .ok (.sipush 441, 3) := by decide +kernel
theorem d_Md_deliver_61 : decode b_Md_deliver 61 = .ok (.iaload, 1) := by decide +kernel
theorem d_Md_deliver_62 : decode b_Md_deliver 62 = .ok (.aload_n 0, 1) := by decide +kernel
theorem d_Md_deliver_63 : decode b_Md_deliver 63 = .ok (.getfield 80, 3) := by decide +kernel
theorem d_Md_deliver_66 : decode b_Md_deliver 66 = .ok (.sipush 443, 3) := by decide +kernel
theorem d_Md_deliver_69 : decode b_Md_deliver 69 = .ok (.iaload, 1) := by decide +kernel
theorem d_Md_deliver_70 : decode b_Md_deliver 70 = .ok (.invokevirtual 122, 3) := by decide +kernel
theorem d_Md_deliver_73 : decode b_Md_deliver 73 = .ok (.iload_n 2, 1) := by decide +kernel
theorem d_Md_deliver_74 : decode b_Md_deliver 74 = .ok (.ireturn, 1) := by decide +kernel
theorem d_Md_propose_0 : decode b_Md_propose 0 = .ok (.iload_n 1, 1) := by decide +kernel
theorem d_Md_propose_1 : decode b_Md_propose 1 = .ok (.ifCond .lt 29, 3) := by decide +kernel
theorem d_Md_propose_4 : decode b_Md_propose 4 = .ok (.iload_n 1, 1) := by decide +kernel
theorem d_Md_propose_5 : decode b_Md_propose 5 = .ok (.aload_n 0, 1) := by decide +kernel
theorem d_Md_propose_6 : decode b_Md_propose 6 = .ok (.getfield 86, 3) := by decide +kernel
theorem d_Md_propose_9 : decode b_Md_propose 9 = .ok (.if_icmp .ge 21, 3) := by decide +kernel
theorem d_Md_propose_12 : decode b_Md_propose 12 = .ok (.iload_n 2, 1) := by decide +kernel
theorem d_Md_propose_13 : decode b_Md_propose 13 = .ok (.ifCond .lt 17, 3) := by decide +kernel
theorem d_Md_propose_16 : decode b_Md_propose 16 = .ok (.iload_n 2, 1) := by decide +kernel
theorem d_Md_propose_17 : decode b_Md_propose 17 = .ok (.iconst 3, 1) := by decide +kernel
theorem d_Md_propose_18 : decode b_Md_propose 18 = .ok (.if_icmp .gt 12, 3) := by decide +kernel
theorem d_Md_propose_21 : decode b_Md_propose 21 = .ok (.aload_n 0, 1) := by decide +kernel
theorem d_Md_propose_22 : decode b_Md_propose 22 = .ok (.getfield 7, 3) := by decide +kernel
theorem d_Md_propose_25 : decode b_Md_propose 25 = .ok (.iload_n 1, 1) := by decide +kernel
theorem d_Md_propose_26 : decode b_Md_propose 26 = .ok (.baload, 1) := by decide +kernel
theorem d_Md_propose_27 : decode b_Md_propose 27 = .ok (.ifCond .eq 5, 3) := by decide +kernel
theorem d_Md_propose_30 : decode b_Md_propose 30 = .ok (.iconst (-1), 1) := by decide +kernel
theorem d_Md_propose_31 : decode b_Md_propose 31 = .ok (.ireturn, 1) := by decide +kernel
theorem d_Md_propose_32 : decode b_Md_propose 32 = .ok (.bipush 6, 2) := by decide +kernel
theorem d_Md_propose_34 : decode b_Md_propose 34 = .ok (.iload_n 1, 1) := by decide +kernel
theorem d_Md_propose_35 : decode b_Md_propose 35 = .ok (.imul, 1) := by decide +kernel
theorem d_Md_propose_36 : decode b_Md_propose 36 = .ok (.istore 5, 2) := by decide +kernel
theorem d_Md_propose_38 : decode b_Md_propose 38 = .ok (.iload 5, 2) := by decide +kernel
theorem d_Md_propose_40 : decode b_Md_propose 40 = .ok (.bipush 6, 2) := by decide +kernel
theorem d_Md_propose_42 : decode b_Md_propose 42 = .ok (.iload_n 1, 1) := by decide +kernel
theorem d_Md_propose_43 : decode b_Md_propose 43 = .ok (.imul, 1) := by decide +kernel
theorem d_Md_propose_44 : decode b_Md_propose 44 = .ok (.bipush 6, 2) := by decide +kernel
theorem d_Md_propose_46 : decode b_Md_propose 46 = .ok (.iadd, 1) := by decide +kernel
theorem d_Md_propose_47 : decode b_Md_propose 47 = .ok (.if_icmp .ge 117, 3) := by decide +kernel
theorem d_Md_propose_50 : decode b_Md_propose 50 = .ok (.bipush 30, 2) := by decide +kernel
theorem d_Md_propose_52 : decode b_Md_propose 52 = .ok (.iload_n 1, 1) := by decide +kernel
theorem d_Md_propose_53 : decode b_Md_propose 53 = .ok (.imul, 1) := by decide +kernel
theorem d_Md_propose_54 : decode b_Md_propose 54 = .ok (.iload 5, 2) := by decide +kernel
theorem d_Md_propose_56 : decode b_Md_propose 56 = .ok (.iadd, 1) := by decide +kernel
theorem d_Md_propose_57 : decode b_Md_propose 57 = .ok (.istore 6, 2) := by decide +kernel
theorem d_Md_propose_59 : decode b_Md_propose 59 = .ok (.aload_n 0, 1) := by decide +kernel
theorem d_Md_propose_60 : decode b_Md_propose 60 = .ok (.getfield 20, 3) := by decide +kernel
theorem d_Md_propose_63 : decode b_Md_propose 63 = .ok (.iload 6, 2) := by decide +kernel
theorem d_Md_propose_65 : decode b_Md_propose 65 = .ok (.iaload, 1) := by decide +kernel
theorem d_Md_propose_66 : decode b_Md_propose 66 = .ok (.ifCond .ne 92, 3) := by decide +kernel
theorem d_Md_propose_69 : decode b_Md_propose 69 = .ok (.aload_n 0, 1) := by decide +kernel
theorem d_Md_propose_70 : decode b_Md_propose 70 = .ok (.getfield 35, 3) := by decide +kernel
theorem d_Md_propose_73 : decode b_Md_propose 73 = .ok (.iload 6, 2) := by decide +kernel
theorem d_Md_propose_75 : decode b_Md_propose 75 = .ok (.iaload, 1) := by decide +kernel
theorem d_Md_propose_76 : decode b_Md_propose 76 = .ok (.ifCond .ne 82, 3) := by decide +kernel
theorem d_Md_propose_79 : decode b_Md_propose 79 = .ok (.aload_n 0, 1) := by decide +kernel
theorem d_Md_propose_80 : decode b_Md_propose 80 = .ok (.iload_n 1, 1) := by decide +kernel
theorem d_Md_propose_81 : decode b_Md_propose 81 = .ok (.iload 5, 2) := by decide +kernel
theorem d_Md_propose_83 : decode b_Md_propose 83 = .ok (.iload_n 3, 1) := by decide +kernel
theorem d_Md_propose_84 : decode b_Md_propose 84 = .ok (.ifCond .eq 9, 3) := by decide +kernel
theorem d_Md_propose_87 : decode b_Md_propose 87 = .ok (.iconst 4, 1) := by decide +kernel
theorem d_Md_propose_88 : decode b_Md_propose 88 = .ok (.iload_n 2, 1) := by decide +kernel
theorem d_Md_propose_89 : decode b_Md_propose 89 = .ok (.iadd, 1) := by decide +kernel
theorem d_Md_propose_90 : decode b_Md_propose 90 = .ok (.goto 4, 3) := by decide +kernel
theorem d_Md_propose_93 : decode b_Md_propose 93 = .ok (.iload_n 2, 1) := by decide +kernel
theorem d_Md_propose_94 : decode b_Md_propose 94 = .ok (.iload_n 3, 1) := by decide +kernel
theorem d_Md_propose_95 : decode b_Md_propose 95 = .ok (.ifCond .eq 8, 3) := by decide +kernel
theorem d_Md_propose_98 : decode b_Md_propose 98 = .ok (.iload 4, 2) := by decide +kernel
theorem d_Md_propose_100 : decode b_Md_propose 100 = .ok (.goto 4, 3) := by decide +kernel
theorem d_Md_propose_103 : decode b_Md_propose 103 = .ok (.iconst 0, 1) := by decide +kernel
theorem d_Md_propose_104 : decode b_Md_propose 104 = .ok (.iconst 1, 1) := by decide +kernel
theorem d_Md_propose_105 : decode b_Md_propose 105 = .ok (.iconst 0, 1) := by decide +kernel
theorem d_Md_propose_106 : decode b_Md_propose 106 = .ok (.invokevirtual 151, 3) := by decide +kernel
theorem d_Md_propose_109 : decode b_Md_propose 109 = .ok (.aload_n 0, 1) := by decide +kernel
theorem d_Md_propose_110 : decode b_Md_propose 110 = .ok (.iload 6, 2) := by decide +kernel
theorem d_Md_propose_112 : decode b_Md_propose 112 = .ok (.iconst 0, 1) := by decide +kernel
theorem d_Md_propose_113 : decode b_Md_propose 113 = .ok (.iconst 0, 1) := by decide +kernel
theorem d_Md_propose_114 : decode b_Md_propose 114 = .ok (.invokevirtual 158, 3) := by decide +kernel
theorem d_Md_propose_117 : decode b_Md_propose 117 = .ok (.iconst 1, 1) := by decide +kernel
theorem d_Md_propose_118 : decode b_Md_propose 118 = .ok (.istore 7, 2) := by decide +kernel
theorem d_Md_propose_120 : decode b_Md_propose 120 = .ok (.iload 7, 2) := by decide +kernel
theorem d_Md_propose_122 : decode b_Md_propose 122 = .ok (.aload_n 0, 1) := by decide +kernel
theorem d_Md_propose_123 : decode b_Md_propose 123 = .ok (.getfield 86, 3) := by decide +kernel
theorem d_Md_propose_126 : decode b_Md_propose 126 = .ok (.iconst 2, 1) := by decide +kernel
theorem d_Md_propose_127 : decode b_Md_propose 127 = .ok (.isub, 1) := by decide +kernel
theorem d_Md_propose_128 : decode b_Md_propose 128 = .ok (.if_icmp .gt 27, 3) := by decide +kernel
theorem d_Md_propose_131 : decode b_Md_propose 131 = .ok (.aload_n 0, 1) := by decide +kernel
theorem d_Md_propose_132 : decode b_Md_propose 132 = .ok (.iconst 0, 1) := by decide +kernel
theorem d_Md_propose_133 : decode b_Md_propose 133 = .ok (.iload_n 1, 1) := by decide +kernel
theorem d_Md_propose_134 : decode b_Md_propose 134 = .ok (.iload_n 1, 1) := by decide +kernel
theorem d_Md_propose_135 : decode b_Md_propose 135 = .ok (.iload 7, 2) := by decide +kernel
theorem d_Md_propose_137 : decode b_Md_propose 137 = .ok (.iadd, 1) := by decide +kernel
theorem d_Md_propose_138 : decode b_Md_propose 138 = .ok (.aload_n 0, 1) := by decide +kernel
theorem d_Md_propose_139 : decode b_Md_propose 139 = .ok (.getfield 86, 3) := by decide +kernel
theorem d_Md_propose_142 : decode b_Md_propose 142 = .ok (.irem, 1) := by decide +kernel
theorem d_Md_propose_143 : decode b_Md_propose 143 = .ok (.iload 5, 2) := by decide +kernel
theorem d_Md_propose_145 : decode b_Md_propose 145 = .ok (.iconst 0, 1) := by decide +kernel
theorem d_Md_propose_146 : decode b_Md_propose 146 = .ok (.invokevirtual 114, 3) := by decide +kernel
theorem d_Md_propose_149 : decode b_Md_propose 149 = .ok (.iinc 7 1, 3) := by decide +kernel
theorem d_Md_propose_152 : decode b_Md_propose 152 = .ok (.goto (-32), 3) := by decide +kernel
theorem d_Md_propose_155 : decode b_Md_propose 155 = .ok (.iload 5, 2) := by decide +kernel
theorem d_Md_propose_157 : decode b_Md_propose 157 = .ok (.ireturn, 1) := by decide +kernel
theorem d_Md_propose_158 : decode b_Md_propose 158 = .ok (.iinc 5 1, 3) := by decide +kernel
theorem d_Md_propose_161 : decode b_Md_propose 161 = .ok (.goto (-123), 3) := by decide +kernel
theorem d_Md_propose_164 : decode b_Md_propose 164 = .ok (.iconst (-1), 1) := by decide +kernel
theorem d_Md_propose_165 : decode b_Md_propose 165 = .ok (.ireturn, 1) := by decide +kernel
theorem d_Md_prepare_0 : decode b_Md_prepare 0 = .ok (.aload_n 0, 1) := by decide +kernel
theorem d_Md_prepare_1 : decode b_Md_prepare 1 = .ok (.iload_n 1, 1) := by decide +kernel
theorem d_Md_prepare_2 : decode b_Md_prepare 2 = .ok (.iload_n 2, 1) := by decide +kernel
theorem d_Md_prepare_3 : decode b_Md_prepare 3 = .ok (.invokevirtual 178, 3) := by decide +kernel
theorem d_Md_prepare_6 : decode b_Md_prepare 6 = .ok (.ifCond .eq 27, 3) := by decide +kernel
theorem d_Md_prepare_9 : decode b_Md_prepare 9 = .ok (.aload_n 0, 1) := by decide +kernel
theorem d_Md_prepare_10 : decode b_Md_prepare 10 = .ok (.getfield 7, 3) := by decide +kernel
theorem d_Md_prepare_13 : decode b_Md_prepare 13 = .ok (.iload_n 1, 1) := by decide +kernel
theorem d_Md_prepare_14 : decode b_Md_prepare 14 = .ok (.baload, 1) := by decide +kernel
theorem d_Md_prepare_15 : decode b_Md_prepare 15 = .ok (.ifCond .ne 18, 3) := by decide +kernel
theorem d_Md_prepare_18 : decode b_Md_prepare 18 = .ok (.aload_n 0, 1) := by decide +kernel
theorem d_Md_prepare_19 : decode b_Md_prepare 19 = .ok (.getfield 20, 3) := by decide +kernel
theorem d_Md_prepare_22 : decode b_Md_prepare 22 = .ok (.bipush 30, 2) := by decide +kernel
theorem d_Md_prepare_24 : decode b_Md_prepare 24 = .ok (.iload_n 1, 1) := by decide +kernel
theorem d_Md_prepare_25 : decode b_Md_prepare 25 = .ok (.imul, 1) := by decide +kernel
theorem d_Md_prepare_26 : decode b_Md_prepare 26 = .ok (.iload_n 2, 1) := by decide +kernel
theorem d_Md_prepare_27 : decode b_Md_prepare 27 = .ok (.iadd, 1) := by decide +kernel
theorem d_Md_prepare_28 : decode b_Md_prepare 28 = .ok (.iaload, 1) := by decide +kernel
theorem d_Md_prepare_29 : decode b_Md_prepare 29 = .ok (.iconst 3, 1) := by decide +kernel
theorem d_Md_prepare_30 : decode b_Md_prepare 30 = .ok (.if_icmp .lt 5, 3) := by decide +kernel
theorem d_Md_prepare_33 : decode b_Md_prepare 33 = .ok (.iconst (-1), 1) := by decide +kernel
theorem d_Md_prepare_34 : decode b_Md_prepare 34 = .ok (.ireturn, 1) := by decide +kernel
theorem d_Md_prepare_35 : decode b_Md_prepare 35 = .ok (.bipush 30, 2) := by decide +kernel
theorem d_Md_prepare_37 : decode b_Md_prepare 37 = .ok (.iload_n 1, 1) := by decide +kernel
theorem d_Md_prepare_38 : decode b_Md_prepare 38 = .ok (.imul, 1) := by decide +kernel
theorem d_Md_prepare_39 : decode b_Md_prepare 39 = .ok (.iload_n 2, 1) := by decide +kernel
theorem d_Md_prepare_40 : decode b_Md_prepare 40 = .ok (.iadd, 1) := by decide +kernel
theorem d_Md_prepare_41 : decode b_Md_prepare 41 = .ok (.istore_n 3, 1) := by decide +kernel
theorem d_Md_prepare_42 : decode b_Md_prepare 42 = .ok (.aload_n 0, 1) := by decide +kernel
theorem d_Md_prepare_43 : decode b_Md_prepare 43 = .ok (.getfield 35, 3) := by decide +kernel
theorem d_Md_prepare_46 : decode b_Md_prepare 46 = .ok (.iload_n 3, 1) := by decide +kernel
theorem d_Md_prepare_47 : decode b_Md_prepare 47 = .ok (.iaload, 1) := by decide +kernel
theorem d_Md_prepare_48 : decode b_Md_prepare 48 = .ok (.iconst 1, 1) := by decide +kernel
theorem d_Md_prepare_49 : decode b_Md_prepare 49 = .ok (.iadd, 1) := by decide +kernel
theorem d_Md_prepare_50 : decode b_Md_prepare 50 = .ok (.istore 4, 2) := by decide +kernel
theorem d_Md_prepare_52 : decode b_Md_prepare 52 = .ok (.iload 4, 2) := by decide +kernel
theorem d_Md_prepare_54 : decode b_Md_prepare 54 = .ok (.aload_n 0, 1) := by decide +kernel
theorem d_Md_prepare_55 : decode b_Md_prepare 55 = .ok (.getfield 86, 3) := by decide +kernel
theorem d_Md_prepare_58 : decode b_Md_prepare 58 = .ok (.irem, 1) := by decide +kernel
theorem d_Md_prepare_59 : decode b_Md_prepare 59 = .ok (.iload_n 1, 1) := by decide +kernel
theorem d_Md_prepare_60 : decode b_Md_prepare 60 = .ok (.if_icmp .eq 9, 3) := by decide +kernel
theorem d_Md_prepare_63 : decode b_Md_prepare 63 = .ok (.iinc 4 1, 3) := by decide +kernel
theorem d_Md_prepare_66 : decode b_Md_prepare 66 = .ok (.goto (-14), 3) := by decide +kernel
theorem d_Md_prepare_69 : decode b_Md_prepare 69 = .ok (.aload_n 0, 1) := by decide +kernel
theorem d_Md_prepare_70 : decode b_Md_prepare 70 = .ok (.getfield 35, 3) := by decide +kernel
theorem d_Md_prepare_73 : decode b_Md_prepare 73 = .ok (.iload_n 3, 1) := by decide +kernel
theorem d_Md_prepare_74 : decode b_Md_prepare 74 = .ok (.iload 4, 2) := by decide +kernel
theorem d_Md_prepare_76 : decode b_Md_prepare 76 = .ok (.iastore, 1) := by decide +kernel
theorem d_Md_prepare_77 : decode b_Md_prepare 77 = .ok (.aload_n 0, 1) := by decide +kernel
theorem d_Md_prepare_78 : decode b_Md_prepare 78 = .ok (.iload_n 3, 1) := by decide +kernel
theorem d_Md_prepare_79 : decode b_Md_prepare 79 = .ok (.iconst 3, 1) := by decide +kernel
theorem d_Md_prepare_80 : decode b_Md_prepare 80 = .ok (.iload 4, 2) := by decide +kernel
theorem d_Md_prepare_82 : decode b_Md_prepare 82 = .ok (.invokevirtual 158, 3) := by decide +kernel
theorem d_Md_prepare_85 : decode b_Md_prepare 85 = .ok (.aload_n 0, 1) := by decide +kernel
theorem d_Md_prepare_86 : decode b_Md_prepare 86 = .ok (.iconst 5, 1) := by decide +kernel
theorem d_Md_prepare_87 : decode b_Md_prepare 87 = .ok (.iload_n 1, 1) := by decide +kernel
theorem d_Md_prepare_88 : decode b_Md_prepare 88 = .ok (.iload_n 2, 1) := by decide +kernel
theorem d_Md_prepare_89 : decode b_Md_prepare 89 = .ok (.iload 4, 2) := by decide +kernel
theorem d_Md_prepare_91 : decode b_Md_prepare 91 = .ok (.invokevirtual 161, 3) := by decide +kernel
theorem d_Md_prepare_94 : decode b_Md_prepare 94 = .ok (.iload 4, 2) := by decide +kernel
theorem d_Md_prepare_96 : decode b_Md_prepare 96 = .ok (.ireturn, 1) := by decide +kernel
theorem d_Md_crash_0 : decode b_Md_crash 0 = .ok (.iconst 0, 1) := by decide +kernel
theorem d_Md_crash_1 : decode b_Md_crash 1 = .ok (.istore_n 2, 1) := by decide +kernel
theorem d_Md_crash_2 : decode b_Md_crash 2 = .ok (.iconst 0, 1) := by decide +kernel
theorem d_Md_crash_3 : decode b_Md_crash 3 = .ok (.istore_n 3, 1) := by decide +kernel
theorem d_Md_crash_4 : decode b_Md_crash 4 = .ok (.iload_n 3, 1) := by decide +kernel
theorem d_Md_crash_5 : decode b_Md_crash 5 = .ok (.aload_n 0, 1) := by decide +kernel
theorem d_Md_crash_6 : decode b_Md_crash 6 = .ok (.getfield 86, 3) := by decide +kernel
theorem d_Md_crash_9 : decode b_Md_crash 9 = .ok (.if_icmp .ge 26, 3) := by decide +kernel
theorem d_Md_crash_12 : decode b_Md_crash 12 = .ok (.iload_n 2, 1) := by decide +kernel
theorem d_Md_crash_13 : decode b_Md_crash 13 = .ok (.aload_n 0, 1) := by decide +kernel
theorem d_Md_crash_14 : decode b_Md_crash 14 = .ok (.getfield 7, 3) := by decide +kernel
theorem d_Md_crash_17 : decode b_Md_crash 17 = .ok (.iload_n 3, 1) := by decide +kernel
theorem d_Md_crash_18 : decode b_Md_crash 18 = .ok (.baload, 1) := by decide +kernel
theorem d_Md_crash_19 : decode b_Md_crash 19 = .ok (.ifCond .eq 7, 3) := by decide +kernel
theorem d_Md_crash_22 : decode b_Md_crash 22 = .ok (.iconst 1, 1) := by decide +kernel
theorem d_Md_crash_23 : decode b_Md_crash 23 = .ok (.goto 4, 3) := by decide +kernel
theorem d_Md_crash_26 : decode b_Md_crash 26 = .ok (.iconst 0, 1) := by decide +kernel
theorem d_Md_crash_27 : decode b_Md_crash 27 = .ok (.iadd, 1) := by decide +kernel
theorem d_Md_crash_28 : decode b_Md_crash 28 = .ok (.istore_n 2, 1) := by decide +kernel
theorem d_Md_crash_29 : decode b_Md_crash 29 = .ok (.iinc 3 1, 3) := by decide +kernel
theorem d_Md_crash_32 : decode b_Md_crash 32 = .ok (.goto (-28), 3) := by decide +kernel
theorem d_Md_crash_35 : decode b_Md_crash 35 = .ok (.iload_n 1, 1) := by decide +kernel
theorem d_Md_crash_36 : decode b_Md_crash 36 = .ok (.ifCond .lt 28, 3) := by decide +kernel
theorem d_Md_crash_39 : decode b_Md_crash 39 = .ok (.iload_n 1, 1) := by decide +kernel
theorem d_Md_crash_40 : decode b_Md_crash 40 = .ok (.aload_n 0, 1) := by decide +kernel
theorem d_Md_crash_41 : decode b_Md_crash 41 = .ok (.getfield 86, 3) := by decide +kernel
theorem d_Md_crash_44 : decode b_Md_crash 44 = .ok (.if_icmp .ge 20, 3) := by decide +kernel
theorem d_Md_crash_47 : decode b_Md_crash 47 = .ok (.aload_n 0, 1) := by decide +kernel
theorem d_Md_crash_48 : decode b_Md_crash 48 = .ok (.getfield 7, 3) := by decide +kernel
theorem d_Md_crash_51 : decode b_Md_crash 51 = .ok (.iload_n 1, 1) := by decide +kernel
theorem d_Md_crash_52 : decode b_Md_crash 52 = .ok (.baload, 1) := by decide +kernel
theorem d_Md_crash_53 : decode b_Md_crash 53 = .ok (.ifCond .ne 11, 3) := by decide +kernel
theorem d_Md_crash_56 : decode b_Md_crash 56 = .ok (.iload_n 2, 1) := by decide +kernel
theorem d_Md_crash_57 : decode b_Md_crash 57 = .ok (.aload_n 0, 1) := by decide +kernel
theorem d_Md_crash_58 : decode b_Md_crash 58 = .ok (.getfield 90, 3) := by decide +kernel
theorem d_Md_crash_61 : decode b_Md_crash 61 = .ok (.if_icmp .lt 5, 3) := by decide +kernel
theorem d_Md_crash_64 : decode b_Md_crash 64 = .ok (.iconst 0, 1) := by decide +kernel
theorem d_Md_crash_65 : decode b_Md_crash 65 = .ok (.ireturn, 1) := by decide +kernel
theorem d_Md_crash_66 : decode b_Md_crash 66 = .ok (.aload_n 0, 1) := by decide +kernel
theorem d_Md_crash_67 : decode b_Md_crash 67 = .ok (.getfield 7, 3) := by decide +kernel
theorem d_Md_crash_70 : decode b_Md_crash 70 = .ok (.iload_n 1, 1) := by decide +kernel
theorem d_Md_crash_71 : decode b_Md_crash 71 = .ok (.iconst 1, 1) := by decide +kernel
theorem d_Md_crash_72 : decode b_Md_crash 72 = .ok (.bastore, 1) := by decide +kernel
theorem d_Md_crash_73 : decode b_Md_crash 73 = .ok (.iconst 1, 1) := by decide +kernel
theorem d_Md_crash_74 : decode b_Md_crash 74 = .ok (.ireturn, 1) := by decide +kernel
theorem d_Md_reachable_0 : decode b_Md_reachable 0 = .ok (.iconst 0, 1) := by decide +kernel
theorem d_Md_reachable_1 : decode b_Md_reachable 1 = .ok (.istore_n 2, 1) := by decide +kernel
theorem d_Md_reachable_2 : decode b_Md_reachable 2 = .ok (.iconst 0, 1) := by decide +kernel
theorem d_Md_reachable_3 : decode b_Md_reachable 3 = .ok (.istore_n 3, 1) := by decide +kernel
theorem d_Md_reachable_4 : decode b_Md_reachable 4 = .ok (.iload_n 3, 1) := by decide +kernel
theorem d_Md_reachable_5 : decode b_Md_reachable 5 = .ok (.aload_n 0, 1) := by decide +kernel
theorem d_Md_reachable_6 : decode b_Md_reachable 6 = .ok (.getfield 93, 3) := by decide +kernel
theorem d_Md_reachable_9 : decode b_Md_reachable 9 = .ok (.if_icmp .ge 34, 3) := by decide +kernel
theorem d_Md_reachable_12 : decode b_Md_reachable 12 = .ok (.aload_n 0, 1) := by decide +kernel
theorem d_Md_reachable_13 : decode b_Md_reachable 13 = .ok (.getfield 20, 3) := by decide +kernel
theorem d_Md_reachable_16 : decode b_Md_reachable 16 = .ok (.bipush 30, 2) := by decide +kernel
theorem d_Md_reachable_18 : decode b_Md_reachable 18 = .ok (.iload_n 1, 1) := by decide +kernel
theorem d_Md_reachable_19 : decode b_Md_reachable 19 = .ok (.imul, 1) := by decide +kernel
theorem d_Md_reachable_20 : decode b_Md_reachable 20 = .ok (.iload_n 3, 1) := by decide +kernel
theorem d_Md_reachable_21 : decode b_Md_reachable 21 = .ok (.iadd, 1) := by decide +kernel
theorem d_Md_reachable_22 : decode b_Md_reachable 22 = .ok (.iaload, 1) := by decide +kernel
theorem d_Md_reachable_23 : decode b_Md_reachable 23 = .ok (.iconst 3, 1) := by decide +kernel
theorem d_Md_reachable_24 : decode b_Md_reachable 24 = .ok (.if_icmp .ne 11, 3) := by decide +kernel
theorem d_Md_reachable_27 : decode b_Md_reachable 27 = .ok (.iload_n 2, 1) := by decide +kernel
theorem d_Md_reachable_28 : decode b_Md_reachable 28 = .ok (.iconst 1, 1) := by decide +kernel
theorem d_Md_reachable_29 : decode b_Md_reachable 29 = .ok (.iload_n 3, 1) := by decide +kernel
theorem d_Md_reachable_30 : decode b_Md_reachable 30 = .ok (.ishl, 1) := by decide +kernel
theorem d_Md_reachable_31 : decode b_Md_reachable 31 = .ok (.ior, 1) := by decide +kernel
theorem d_Md_reachable_32 : decode b_Md_reachable 32 = .ok (.goto 4, 3) := by decide +kernel
theorem d_Md_reachable_35 : decode b_Md_reachable 35 = .ok (.iload_n 2, 1) := by decide +kernel
theorem d_Md_reachable_36 : decode b_Md_reachable 36 = .ok (.istore_n 2, 1) := by decide +kernel
theorem d_Md_reachable_37 : decode b_Md_reachable 37 = .ok (.iinc 3 1, 3) := by decide +kernel
theorem d_Md_reachable_40 : decode b_Md_reachable 40 = .ok (.goto (-36), 3) := by decide +kernel
theorem d_Md_reachable_43 : decode b_Md_reachable 43 = .ok (.iconst 0, 1) := by decide +kernel
theorem d_Md_reachable_44 : decode b_Md_reachable 44 = .ok (.istore_n 3, 1) := by decide +kernel
theorem d_Md_reachable_45 : decode b_Md_reachable 45 = .ok (.iload_n 3, 1) := by decide +kernel
theorem d_Md_reachable_46 : decode b_Md_reachable 46 = .ok (.aload_n 0, 1) := by decide +kernel
theorem d_Md_reachable_47 : decode b_Md_reachable 47 = .ok (.getfield 93, 3) := by decide +kernel
theorem d_Md_reachable_50 : decode b_Md_reachable 50 = .ok (.if_icmp .ge 45, 3) := by decide +kernel
theorem d_Md_reachable_53 : decode b_Md_reachable 53 = .ok (.aload_n 0, 1) := by decide +kernel
theorem d_Md_reachable_54 : decode b_Md_reachable 54 = .ok (.getfield 83, 3) := by decide +kernel
theorem d_Md_reachable_57 : decode b_Md_reachable 57 = .ok (.iload_n 3, 1) := by decide +kernel
theorem d_Md_reachable_58 : decode b_Md_reachable 58 = .ok (.iload_n 2, 1) := by decide +kernel
theorem d_Md_reachable_59 : decode b_Md_reachable 59 = .ok (.iload_n 3, 1) := by decide +kernel
theorem d_Md_reachable_60 : decode b_Md_reachable 60 = .ok (.ishr, 1) := by decide +kernel
theorem d_Md_reachable_61 : decode b_Md_reachable 61 = .ok (.iconst 1, 1) := by decide +kernel
theorem d_Md_reachable_62 : decode b_Md_reachable 62 = .ok (.iand, 1) := by decide +kernel
theorem d_Md_reachable_63 : decode b_Md_reachable 63 = .ok (.iconst 1, 1) := by decide +kernel
theorem d_Md_reachable_64 : decode b_Md_reachable 64 = .ok (.if_icmp .ne 23, 3) := by decide +kernel
theorem d_Md_reachable_67 : decode b_Md_reachable 67 = .ok (.aload_n 0, 1) := by decide +kernel
theorem d_Md_reachable_68 : decode b_Md_reachable 68 = .ok (.getfield 32, 3) := by decide +kernel
theorem d_Md_reachable_71 : decode b_Md_reachable 71 = .ok (.bipush 30, 2) := by decide +kernel
theorem d_Md_reachable_73 : decode b_Md_reachable 73 = .ok (.iload_n 1, 1) := by decide +kernel
theorem d_Md_reachable_74 : decode b_Md_reachable 74 = .ok (.imul, 1) := by decide +kernel
theorem d_Md_reachable_75 : decode b_Md_reachable 75 = .ok (.iload_n 3, 1) := by decide +kernel
theorem d_Md_reachable_76 : decode b_Md_reachable 76 = .ok (.iadd, 1) := by decide +kernel
theorem d_Md_reachable_77 : decode b_Md_reachable 77 = .ok (.iaload, 1) := by decide +kernel
theorem d_Md_reachable_78 : decode b_Md_reachable 78 = .ok (.iload_n 2, 1) := by decide +kernel
theorem d_Md_reachable_79 : decode b_Md_reachable 79 = .ok (.iand, 1) := by decide +kernel
theorem d_Md_reachable_80 : decode b_Md_reachable 80 = .ok (.iconst 1, 1) := by decide +kernel
theorem d_Md_reachable_81 : decode b_Md_reachable 81 = .ok (.iload_n 3, 1) := by decide +kernel
theorem d_Md_reachable_82 : decode b_Md_reachable 82 = .ok (.ishl, 1) := by decide +kernel
theorem d_Md_reachable_83 : decode b_Md_reachable 83 = .ok (.ior, 1) := by decide +kernel
theorem d_Md_reachable_84 : decode b_Md_reachable 84 = .ok (.goto 4, 3) := by decide +kernel
theorem d_Md_reachable_87 : decode b_Md_reachable 87 = .ok (.iconst 0, 1) := by decide +kernel
theorem d_Md_reachable_88 : decode b_Md_reachable 88 = .ok (.iastore, 1) := by decide +kernel
theorem d_Md_reachable_89 : decode b_Md_reachable 89 = .ok (.iinc 3 1, 3) := by decide +kernel
theorem d_Md_reachable_92 : decode b_Md_reachable 92 = .ok (.goto (-47), 3) := by decide +kernel
theorem d_Md_reachable_95 : decode b_Md_reachable 95 = .ok (.iconst 0, 1) := by decide +kernel
theorem d_Md_reachable_96 : decode b_Md_reachable 96 = .ok (.istore_n 3, 1) := by decide +kernel
theorem d_Md_reachable_97 : decode b_Md_reachable 97 = .ok (.iload_n 3, 1) := by decide +kernel
theorem d_Md_reachable_98 : decode b_Md_reachable 98 = .ok (.aload_n 0, 1) := by decide +kernel
theorem d_Md_reachable_99 : decode b_Md_reachable 99 = .ok (.getfield 93, 3) := by decide +kernel
theorem d_Md_reachable_102 : decode b_Md_reachable 102 = .ok (.if_icmp .ge 63, 3) := by decide +kernel
theorem d_Md_reachable_105 : decode b_Md_reachable 105 = .ok (.iconst 0, 1) := by decide +kernel
theorem d_Md_reachable_106 : decode b_Md_reachable 106 = .ok (.istore 4, 2) := by decide +kernel
theorem d_Md_reachable_108 : decode b_Md_reachable 108 = .ok (.iload 4, 2) := by decide +kernel
theorem d_Md_reachable_110 : decode b_Md_reachable 110 = .ok (.aload_n 0, 1) := by decide +kernel
theorem d_Md_reachable_111 : decode b_Md_reachable 111 = .ok (.getfield 93, 3) := by decide +kernel
theorem d_Md_reachable_114 : decode b_Md_reachable 114 = .ok (.if_icmp .ge 45, 3) := by decide +kernel
theorem d_Md_reachable_117 : decode b_Md_reachable 117 = .ok (.aload_n 0, 1) := by decide +kernel
theorem d_Md_reachable_118 : decode b_Md_reachable 118 = .ok (.getfield 83, 3) := by decide +kernel
theorem d_Md_reachable_121 : decode b_Md_reachable 121 = .ok (.iload 4, 2) := by decide +kernel
theorem d_Md_reachable_123 : decode b_Md_reachable 123 = .ok (.iaload, 1) := by decide +kernel
theorem d_Md_reachable_124 : decode b_Md_reachable 124 = .ok (.iload_n 3, 1) := by decide +kernel
theorem d_Md_reachable_125 : decode b_Md_reachable 125 = .ok (.ishr, 1) := by decide +kernel
theorem d_Md_reachable_126 : decode b_Md_reachable 126 = .ok (.iconst 1, 1) := by decide +kernel
theorem d_Md_reachable_127 : decode b_Md_reachable 127 = .ok (.iand, 1) := by decide +kernel
theorem d_Md_reachable_128 : decode b_Md_reachable 128 = .ok (.iconst 1, 1) := by decide +kernel
theorem d_Md_reachable_129 : decode b_Md_reachable 129 = .ok (.if_icmp .ne 24, 3) := by decide +kernel
theorem d_Md_reachable_132 : decode b_Md_reachable 132 = .ok (.aload_n 0, 1) := by decide +kernel
theorem d_Md_reachable_133 : decode b_Md_reachable 133 = .ok (.getfield 83, 3) := by decide +kernel
theorem d_Md_reachable_136 : decode b_Md_reachable 136 = .ok (.iload 4, 2) := by decide +kernel
theorem d_Md_reachable_138 : decode b_Md_reachable 138 = .ok (.aload_n 0, 1) := by decide +kernel
theorem d_Md_reachable_139 : decode b_Md_reachable 139 = .ok (.getfield 83, 3) := by decide +kernel
theorem d_Md_reachable_142 : decode b_Md_reachable 142 = .ok (.iload 4, 2) := by decide +kernel
theorem d_Md_reachable_144 : decode b_Md_reachable 144 = .ok (.iaload, 1) := by decide +kernel
theorem d_Md_reachable_145 : decode b_Md_reachable 145 = .ok (.aload_n 0, 1) := by decide +kernel
theorem d_Md_reachable_146 : decode b_Md_reachable 146 = .ok (.getfield 83, 3) := by decide +kernel
theorem d_Md_reachable_149 : decode b_Md_reachable 149 = .ok (.iload_n 3, 1) := by decide +kernel
theorem d_Md_reachable_150 : decode b_Md_reachable 150 = .ok (.iaload, 1) := by decide +kernel
theorem d_Md_reachable_151 : decode b_Md_reachable 151 = .ok (.ior, 1) := by decide +kernel
theorem d_Md_reachable_152 : decode b_Md_reachable 152 = .ok (.iastore, 1) := by decide +kernel
theorem d_Md_reachable_153 : decode b_Md_reachable 153 = .ok (.iinc 4 1, 3) := by decide +kernel
theorem d_Md_reachable_156 : decode b_Md_reachable 156 = .ok (.goto (-48), 3) := by decide +kernel
theorem d_Md_reachable_159 : decode b_Md_reachable 159 = .ok (.iinc 3 1, 3) := by decide +kernel
theorem d_Md_reachable_162 : decode b_Md_reachable 162 = .ok (.goto (-65), 3) := by decide +kernel
theorem d_Md_reachable_165 : decode b_Md_reachable 165 = .ok (.return_, 1) := by decide +kernel
theorem d_Md_component_0 : decode b_Md_component 0 = .ok (.iconst 0, 1) := by decide +kernel
theorem d_Md_component_1 : decode b_Md_component 1 = .ok (.istore_n 2, 1) := by decide +kernel
theorem d_Md_component_2 : decode b_Md_component 2 = .ok (.iconst 0, 1) := by decide +kernel
theorem d_Md_component_3 : decode b_Md_component 3 = .ok (.istore_n 3, 1) := by decide +kernel
theorem d_Md_component_4 : decode b_Md_component 4 = .ok (.iload_n 3, 1) := by decide +kernel
theorem d_Md_component_5 : decode b_Md_component 5 = .ok (.aload_n 0, 1) := by decide +kernel
theorem d_Md_component_6 : decode b_Md_component 6 = .ok (.getfield 93, 3) := by decide +kernel
theorem d_Md_component_9 : decode b_Md_component 9 = .ok (.if_icmp .ge 43, 3) := by decide +kernel
theorem d_Md_component_12 : decode b_Md_component 12 = .ok (.aload_n 0, 1) := by decide +kernel
theorem d_Md_component_13 : decode b_Md_component 13 = .ok (.getfield 83, 3) := by decide +kernel
theorem d_Md_component_16 : decode b_Md_component 16 = .ok (.iload_n 1, 1) := by decide +kernel
theorem d_Md_component_17 : decode b_Md_component 17 = .ok (.iaload, 1) := by decide +kernel
theorem d_Md_component_18 : decode b_Md_component 18 = .ok (.iload_n 3, 1) := by decide +kernel
theorem d_Md_component_19 : decode b_Md_component 19 = .ok (.ishr, 1) := by decide +kernel
theorem d_Md_component_20 : decode b_Md_component 20 = .ok (.iconst 1, 1) := by decide +kernel
theorem d_Md_component_21 : decode b_Md_component 21 = .ok (.iand, 1) := by decide +kernel
theorem d_Md_component_22 : decode b_Md_component 22 = .ok (.iconst 1, 1) := by decide +kernel
theorem d_Md_component_23 : decode b_Md_component 23 = .ok (.if_icmp .ne 23, 3) := by decide +kernel
theorem d_Md_component_26 : decode b_Md_component 26 = .ok (.aload_n 0, 1) := by decide +kernel
theorem d_Md_component_27 : decode b_Md_component 27 = .ok (.getfield 83, 3) := by decide +kernel
theorem d_Md_component_30 : decode b_Md_component 30 = .ok (.iload_n 3, 1) := by decide +kernel
theorem d_Md_component_31 : decode b_Md_component 31 = .ok (.iaload, 1) := by decide +kernel
theorem d_Md_component_32 : decode b_Md_component 32 = .ok (.iload_n 1, 1) := by decide +kernel
theorem d_Md_component_33 : decode b_Md_component 33 = .ok (.ishr, 1) := by decide +kernel
theorem d_Md_component_34 : decode b_Md_component 34 = .ok (.iconst 1, 1) := by decide +kernel
theorem d_Md_component_35 : decode b_Md_component 35 = .ok (.iand, 1) := by decide +kernel
theorem d_Md_component_36 : decode b_Md_component 36 = .ok (.iconst 1, 1) := by decide +kernel
theorem d_Md_component_37 : decode b_Md_component 37 = .ok (.if_icmp .ne 9, 3) := by decide +kernel
theorem d_Md_component_40 : decode b_Md_component 40 = .ok (.iload_n 2, 1) := by decide +kernel
theorem d_Md_component_41 : decode b_Md_component 41 = .ok (.iconst 1, 1) := by decide +kernel
theorem d_Md_component_42 : decode b_Md_component 42 = .ok (.iload_n 3, 1) := by decide +kernel
theorem d_Md_component_43 : decode b_Md_component 43 = .ok (.ishl, 1) := by decide +kernel
theorem d_Md_component_44 : decode b_Md_component 44 = .ok (.ior, 1) := by decide +kernel
theorem d_Md_component_45 : decode b_Md_component 45 = .ok (.istore_n 2, 1) := by decide +kernel
theorem d_Md_component_46 : decode b_Md_component 46 = .ok (.iinc 3 1, 3) := by decide +kernel
theorem d_Md_component_49 : decode b_Md_component 49 = .ok (.goto (-45), 3) := by decide +kernel
theorem d_Md_component_52 : decode b_Md_component 52 = .ok (.iload_n 2, 1) := by decide +kernel
theorem d_Md_component_53 : decode b_Md_component 53 = .ok (.ireturn, 1) := by decide +kernel
theorem d_Md_ready_0 : decode b_Md_ready 0 = .ok (.iload_n 2, 1) := by decide +kernel
theorem d_Md_ready_1 : decode b_Md_ready 1 = .ok (.istore_n 3, 1) := by decide +kernel
theorem d_Md_ready_2 : decode b_Md_ready 2 = .ok (.iconst 0, 1) := by decide +kernel
theorem d_Md_ready_3 : decode b_Md_ready 3 = .ok (.istore 4, 2) := by decide +kernel
theorem d_Md_ready_5 : decode b_Md_ready 5 = .ok (.iload 4, 2) := by decide +kernel
theorem d_Md_ready_7 : decode b_Md_ready 7 = .ok (.aload_n 0, 1) := by decide +kernel
theorem d_Md_ready_8 : decode b_Md_ready 8 = .ok (.getfield 93, 3) := by decide +kernel
theorem d_Md_ready_11 : decode b_Md_ready 11 = .ok (.if_icmp .ge 36, 3) := by decide +kernel
theorem d_Md_ready_14 : decode b_Md_ready 14 = .ok (.aload_n 0, 1) := by decide +kernel
theorem d_Md_ready_15 : decode b_Md_ready 15 = .ok (.getfield 20, 3) := by decide +kernel
theorem d_Md_ready_18 : decode b_Md_ready 18 = .ok (.bipush 30, 2) := by decide +kernel
theorem d_Md_ready_20 : decode b_Md_ready 20 = .ok (.iload_n 1, 1) := by decide +kernel
theorem d_Md_ready_21 : decode b_Md_ready 21 = .ok (.imul, 1) := by decide +kernel
theorem d_Md_ready_22 : decode b_Md_ready 22 = .ok (.iload 4, 2) := by decide +kernel
theorem d_Md_ready_24 : decode b_Md_ready 24 = .ok (.iadd, 1) := by decide +kernel
theorem d_Md_ready_25 : decode b_Md_ready 25 = .ok (.iaload, 1) := by decide +kernel
theorem d_Md_ready_26 : decode b_Md_ready 26 = .ok (.iconst 4, 1) := by decide +kernel
theorem d_Md_ready_27 : decode b_Md_ready 27 = .ok (.if_icmp .ne 12, 3) := by decide +kernel
theorem d_Md_ready_30 : decode b_Md_ready 30 = .ok (.iload_n 3, 1) := by decide +kernel
theorem d_Md_ready_31 : decode b_Md_ready 31 = .ok (.iconst 1, 1) := by decide +kernel
theorem d_Md_ready_32 : decode b_Md_ready 32 = .ok (.iload 4, 2) := by decide +kernel
theorem d_Md_ready_34 : decode b_Md_ready 34 = .ok (.ishl, 1) := by decide +kernel
theorem d_Md_ready_35 : decode b_Md_ready 35 = .ok (.ior, 1) := by decide +kernel
theorem d_Md_ready_36 : decode b_Md_ready 36 = .ok (.goto 4, 3) := by decide +kernel
theorem d_Md_ready_39 : decode b_Md_ready 39 = .ok (.iload_n 3, 1) := by decide +kernel
theorem d_Md_ready_40 : decode b_Md_ready 40 = .ok (.istore_n 3, 1) := by decide +kernel
theorem d_Md_ready_41 : decode b_Md_ready 41 = .ok (.iinc 4 1, 3) := by decide +kernel
theorem d_Md_ready_44 : decode b_Md_ready 44 = .ok (.goto (-39), 3) := by decide +kernel
theorem d_Md_ready_47 : decode b_Md_ready 47 = .ok (.iconst 0, 1) := by decide +kernel
theorem d_Md_ready_48 : decode b_Md_ready 48 = .ok (.istore 4, 2) := by decide +kernel
theorem d_Md_ready_50 : decode b_Md_ready 50 = .ok (.iload 4, 2) := by decide +kernel
theorem d_Md_ready_52 : decode b_Md_ready 52 = .ok (.aload_n 0, 1) := by decide +kernel
theorem d_Md_ready_53 : decode b_Md_ready 53 = .ok (.getfield 93, 3) := by decide +kernel
theorem d_Md_ready_56 : decode b_Md_ready 56 = .ok (.if_icmp .ge 40, 3) := by decide +kernel
theorem d_Md_ready_59 : decode b_Md_ready 59 = .ok (.iload_n 2, 1) := by decide +kernel
theorem d_Md_ready_60 : decode b_Md_ready 60 = .ok (.iload 4, 2) := by decide +kernel
theorem d_Md_ready_62 : decode b_Md_ready 62 = .ok (.ishr, 1) := by decide +kernel
theorem d_Md_ready_63 : decode b_Md_ready 63 = .ok (.iconst 1, 1) := by decide +kernel
theorem d_Md_ready_64 : decode b_Md_ready 64 = .ok (.iand, 1) := by decide +kernel
theorem d_Md_ready_65 : decode b_Md_ready 65 = .ok (.iconst 1, 1) := by decide +kernel
theorem d_Md_ready_66 : decode b_Md_ready 66 = .ok (.if_icmp .ne 24, 3) := by decide +kernel
theorem d_Md_ready_69 : decode b_Md_ready 69 = .ok (.aload_n 0, 1) := by decide +kernel
theorem d_Md_ready_70 : decode b_Md_ready 70 = .ok (.getfield 32, 3) := by decide +kernel
theorem d_Md_ready_73 : decode b_Md_ready 73 = .ok (.bipush 30, 2) := by decide +kernel
theorem d_Md_ready_75 : decode b_Md_ready 75 = .ok (.iload_n 1, 1) := by decide +kernel
theorem d_Md_ready_76 : decode b_Md_ready 76 = .ok (.imul, 1) := by decide +kernel
theorem d_Md_ready_77 : decode b_Md_ready 77 = .ok (.iload 4, 2) := by decide +kernel
theorem d_Md_ready_79 : decode b_Md_ready 79 = .ok (.iadd, 1) := by decide +kernel
theorem d_Md_ready_80 : decode b_Md_ready 80 = .ok (.iaload, 1) := by decide +kernel
theorem d_Md_ready_81 : decode b_Md_ready 81 = .ok (.iload_n 3, 1) := by decide +kernel
theorem d_Md_ready_82 : decode b_Md_ready 82 = .ok (.iconst (-1), 1) := by decide +kernel
theorem d_Md_ready_83 : decode b_Md_ready 83 = .ok (.ixor, 1) := by decide +kernel
theorem d_Md_ready_84 : decode b_Md_ready 84 = .ok (.iand, 1) := by decide +kernel
theorem d_Md_ready_85 : decode b_Md_ready 85 = .ok (.ifCond .eq 5, 3) := by decide +kernel
theorem d_Md_ready_88 : decode b_Md_ready 88 = .ok (.iconst 0, 1) := by decide +kernel
theorem d_Md_ready_89 : decode b_Md_ready 89 = .ok (.ireturn, 1) := by decide +kernel
theorem d_Md_ready_90 : decode b_Md_ready 90 = .ok (.iinc 4 1, 3) := by decide +kernel
theorem d_Md_ready_93 : decode b_Md_ready 93 = .ok (.goto (-43), 3) := by decide +kernel
theorem d_Md_ready_96 : decode b_Md_ready 96 = .ok (.iload_n 2, 1) := by decide +kernel
theorem d_Md_ready_97 : decode b_Md_ready 97 = .ok (.ifCond .eq 7, 3) := by decide +kernel
theorem d_Md_ready_100 : decode b_Md_ready 100 = .ok (.iconst 1, 1) := by decide +kernel
theorem d_Md_ready_101 : decode b_Md_ready 101 = .ok (.goto 4, 3) := by decide +kernel
theorem d_Md_ready_104 : decode b_Md_ready 104 = .ok (.iconst 0, 1) := by decide +kernel
theorem d_Md_ready_105 : decode b_Md_ready 105 = .ok (.ireturn, 1) := by decide +kernel
theorem d_Md_next_0 : decode b_Md_next 0 = .ok (.iconst (-1), 1) := by decide +kernel
theorem d_Md_next_1 : decode b_Md_next 1 = .ok (.istore_n 3, 1) := by decide +kernel
theorem d_Md_next_2 : decode b_Md_next 2 = .ok (.aload_n 0, 1) := by decide +kernel
theorem d_Md_next_3 : decode b_Md_next 3 = .ok (.getfield 93, 3) := by decide +kernel
theorem d_Md_next_6 : decode b_Md_next 6 = .ok (.iconst 1, 1) := by decide +kernel
theorem d_Md_next_7 : decode b_Md_next 7 = .ok (.isub, 1) := by decide +kernel
theorem d_Md_next_8 : decode b_Md_next 8 = .ok (.istore 4, 2) := by decide +kernel
theorem d_Md_next_10 : decode b_Md_next 10 = .ok (.iload 4, 2) := by decide +kernel
theorem d_Md_next_12 : decode b_Md_next 12 = .ok (.ifCond .lt 52, 3) := by decide +kernel
theorem d_Md_next_15 : decode b_Md_next 15 = .ok (.iload_n 2, 1) := by decide +kernel
theorem d_Md_next_16 : decode b_Md_next 16 = .ok (.iload 4, 2) := by decide +kernel
theorem d_Md_next_18 : decode b_Md_next 18 = .ok (.ishr, 1) := by decide +kernel
theorem d_Md_next_19 : decode b_Md_next 19 = .ok (.iconst 1, 1) := by decide +kernel
theorem d_Md_next_20 : decode b_Md_next 20 = .ok (.iand, 1) := by decide +kernel
theorem d_Md_next_21 : decode b_Md_next 21 = .ok (.iconst 1, 1) := by decide +kernel
theorem d_Md_next_22 : decode b_Md_next 22 = .ok (.if_icmp .ne 36, 3) := by decide +kernel
theorem d_Md_next_25 : decode b_Md_next 25 = .ok (.iload_n 3, 1) := by decide +kernel
theorem d_Md_next_26 : decode b_Md_next 26 = .ok (.ifCond .lt 29, 3) := by decide +kernel
theorem d_Md_next_29 : decode b_Md_next 29 = .ok (.aload_n 0, 1) := by decide +kernel
theorem d_Md_next_30 : decode b_Md_next 30 = .ok (.getfield 29, 3) := by decide +kernel
theorem d_Md_next_33 : decode b_Md_next 33 = .ok (.bipush 30, 2) := by decide +kernel
theorem d_Md_next_35 : decode b_Md_next 35 = .ok (.iload_n 1, 1) := by decide +kernel
theorem d_Md_next_36 : decode b_Md_next 36 = .ok (.imul, 1) := by decide +kernel
theorem d_Md_next_37 : decode b_Md_next 37 = .ok (.iload 4, 2) := by decide +kernel
theorem d_Md_next_39 : decode b_Md_next 39 = .ok (.iadd, 1) := by decide +kernel
theorem d_Md_next_40 : decode b_Md_next 40 = .ok (.iaload, 1) := by decide +kernel
theorem d_Md_next_41 : decode b_Md_next 41 = .ok (.aload_n 0, 1) := by decide +kernel
theorem d_Md_next_42 : decode b_Md_next 42 = .ok (.getfield 29, 3) := by decide +kernel
theorem d_Md_next_45 : decode b_Md_next 45 = .ok (.bipush 30, 2) := by decide +kernel
theorem d_Md_next_47 : decode b_Md_next 47 = .ok (.iload_n 1, 1) := by decide +kernel
theorem d_Md_next_48 : decode b_Md_next 48 = .ok (.imul, 1) := by decide +kernel
theorem d_Md_next_49 : decode b_Md_next 49 = .ok (.iload_n 3, 1) := by decide +kernel
theorem d_Md_next_50 : decode b_Md_next 50 = .ok (.iadd, 1) := by decide +kernel
theorem d_Md_next_51 : decode b_Md_next 51 = .ok (.iaload, 1) := by decide +kernel
theorem d_Md_next_52 : decode b_Md_next 52 = .ok (.if_icmp .gt 6, 3) := by decide +kernel
theorem d_Md_next_55 : decode b_Md_next 55 = .ok (.iload 4, 2) := by decide +kernel
theorem d_Md_next_57 : decode b_Md_next 57 = .ok (.istore_n 3, 1) := by decide +kernel
theorem d_Md_next_58 : decode b_Md_next 58 = .ok (.iinc 4 (-1), 3) := by decide +kernel
theorem d_Md_next_61 : decode b_Md_next 61 = .ok (.goto (-51), 3) := by decide +kernel
theorem d_Md_next_64 : decode b_Md_next 64 = .ok (.iload_n 3, 1) := by decide +kernel
theorem d_Md_next_65 : decode b_Md_next 65 = .ok (.ireturn, 1) := by decide +kernel
end
section
theorem d_Md_act_0 : decode b_Md_act 0 = .ok (.bipush 30, 2) := by decide +kernel
theorem d_Md_act_2 : decode b_Md_act 2 = .ok (.iload_n 1, 1) := by decide +kernel
theorem d_Md_act_3 : decode b_Md_act 3 = .ok (.imul, 1) := by decide +kernel
theorem d_Md_act_4 : decode b_Md_act 4 = .ok (.iload_n 2, 1) := by decide +kernel
theorem d_Md_act_5 : decode b_Md_act 5 = .ok (.iadd, 1) := by decide +kernel
theorem d_Md_act_6 : decode b_Md_act 6 = .ok (.istore_n 3, 1) := by decide +kernel
theorem d_Md_act_7 : decode b_Md_act 7 = .ok (.iconst 4, 1) := by decide +kernel
theorem d_Md_act_8 : decode b_Md_act 8 = .ok (.iload_n 1, 1) := by decide +kernel
theorem d_Md_act_9 : decode b_Md_act 9 = .ok (.imul, 1) := by decide +kernel
theorem d_Md_act_10 : decode b_Md_act 10 = .ok (.aload_n 0, 1) := by decide +kernel
theorem d_Md_act_11 : decode b_Md_act 11 = .ok (.getfield 23, 3) := by decide +kernel
theorem d_Md_act_14 : decode b_Md_act 14 = .ok (.iload_n 3, 1) := by decide +kernel
theorem d_Md_act_15 : decode b_Md_act 15 = .ok (.iaload, 1) := by decide +kernel
theorem d_Md_act_16 : decode b_Md_act 16 = .ok (.iconst 3, 1) := by decide +kernel
theorem d_Md_act_17 : decode b_Md_act 17 = .ok (.iand, 1) := by decide +kernel
theorem d_Md_act_18 : decode b_Md_act 18 = .ok (.iadd, 1) := by decide +kernel
theorem d_Md_act_19 : decode b_Md_act 19 = .ok (.istore 4, 2) := by decide +kernel
theorem d_Md_act_21 : decode b_Md_act 21 = .ok (.aload_n 0, 1) := by decide +kernel
theorem d_Md_act_22 : decode b_Md_act 22 = .ok (.getfield 44, 3) := by decide +kernel
theorem d_Md_act_25 : decode b_Md_act 25 = .ok (.iload_n 3, 1) := by decide +kernel
theorem d_Md_act_26 : decode b_Md_act 26 = .ok (.aload_n 0, 1) := by decide +kernel
theorem d_Md_act_27 : decode b_Md_act 27 = .ok (.getfield 23, 3) := by decide +kernel
theorem d_Md_act_30 : decode b_Md_act 30 = .ok (.iload_n 3, 1) := by decide +kernel
theorem d_Md_act_31 : decode b_Md_act 31 = .ok (.iaload, 1) := by decide +kernel
theorem d_Md_act_32 : decode b_Md_act 32 = .ok (.bipush 8, 2) := by decide +kernel
theorem d_Md_act_34 : decode b_Md_act 34 = .ok (.if_icmp .ne 7, 3) := by decide +kernel
theorem d_Md_act_37 : decode b_Md_act 37 = .ok (.iconst 0, 1) := by decide +kernel
theorem d_Md_act_38 : decode b_Md_act 38 = .ok (.goto 10, 3) := by decide +kernel
theorem d_Md_act_41 : decode b_Md_act 41 = .ok (.aload_n 0, 1) := by decide +kernel
theorem d_Md_act_42 : decode b_Md_act 42 = .ok (.getfield 13, 3) := by decide +kernel
theorem d_Md_act_45 : decode b_Md_act 45 = .ok (.iload 4, 2) := by decide +kernel
theorem d_Md_act_47 : decode b_Md_act 47 = .ok (.iaload, 1) := by decide +kernel
theorem d_Md_act_48 : decode b_Md_act 48 = .ok (.iastore, 1) := by decide +kernel
theorem d_Md_act_49 : decode b_Md_act 49 = .ok (.aload_n 0, 1) := by decide +kernel
theorem d_Md_act_50 : decode b_Md_act 50 = .ok (.getfield 23, 3) := by decide +kernel
theorem d_Md_act_53 : decode b_Md_act 53 = .ok (.iload_n 3, 1) := by decide +kernel
theorem d_Md_act_54 : decode b_Md_act 54 = .ok (.iaload, 1) := by decide +kernel
theorem d_Md_act_55 : decode b_Md_act 55 = .ok (.iconst 4, 1) := by decide +kernel
theorem d_Md_act_56 : decode b_Md_act 56 = .ok (.if_icmp .lt 27, 3) := by decide +kernel
theorem d_Md_act_59 : decode b_Md_act 59 = .ok (.aload_n 0, 1) := by decide +kernel
theorem d_Md_act_60 : decode b_Md_act 60 = .ok (.getfield 23, 3) := by decide +kernel
theorem d_Md_act_63 : decode b_Md_act 63 = .ok (.iload_n 3, 1) := by decide +kernel
theorem d_Md_act_64 : decode b_Md_act 64 = .ok (.iaload, 1) := by decide +kernel
theorem d_Md_act_65 : decode b_Md_act 65 = .ok (.bipush 8, 2) := by decide +kernel
theorem d_Md_act_67 : decode b_Md_act 67 = .ok (.if_icmp .ge 16, 3) := by decide +kernel
theorem d_Md_act_70 : decode b_Md_act 70 = .ok (.aload_n 0, 1) := by decide +kernel
theorem d_Md_act_71 : decode b_Md_act 71 = .ok (.getfield 13, 3) := by decide +kernel
theorem d_Md_act_74 : decode b_Md_act 74 = .ok (.iload 4, 2) := by decide +kernel
theorem d_Md_act_76 : decode b_Md_act 76 = .ok (.aload_n 0, 1) := by decide +kernel
theorem d_Md_act_77 : decode b_Md_act 77 = .ok (.getfield 26, 3) := by decide +kernel
theorem d_Md_act_80 : decode b_Md_act 80 = .ok (.iload_n 3, 1) := by decide +kernel
theorem d_Md_act_81 : decode b_Md_act 81 = .ok (.iaload, 1) := by decide +kernel
theorem d_Md_act_82 : decode b_Md_act 82 = .ok (.iastore, 1) := by decide +kernel
theorem d_Md_act_83 : decode b_Md_act 83 = .ok (.aload_n 0, 1) := by decide +kernel
theorem d_Md_act_84 : decode b_Md_act 84 = .ok (.getfield 20, 3) := by decide +kernel
theorem d_Md_act_87 : decode b_Md_act 87 = .ok (.iload_n 3, 1) := by decide +kernel
theorem d_Md_act_88 : decode b_Md_act 88 = .ok (.iconst 4, 1) := by decide +kernel
theorem d_Md_act_89 : decode b_Md_act 89 = .ok (.iastore, 1) := by decide +kernel
theorem d_Md_act_90 : decode b_Md_act 90 = .ok (.aload_n 0, 1) := by decide +kernel
theorem d_Md_act_91 : decode b_Md_act 91 = .ok (.getfield 41, 3) := by decide +kernel
theorem d_Md_act_94 : decode b_Md_act 94 = .ok (.iload_n 3, 1) := by decide +kernel
theorem d_Md_act_95 : decode b_Md_act 95 = .ok (.aload_n 0, 1) := by decide +kernel
theorem d_Md_act_96 : decode b_Md_act 96 = .ok (.getfield 17, 3) := by decide +kernel
theorem d_Md_act_99 : decode b_Md_act 99 = .ok (.iload_n 1, 1) := by decide +kernel
theorem d_Md_act_100 : decode b_Md_act 100 = .ok (.iaload, 1) := by decide +kernel
theorem d_Md_act_101 : decode b_Md_act 101 = .ok (.iastore, 1) := by decide +kernel
theorem d_Md_act_102 : decode b_Md_act 102 = .ok (.aload_n 0, 1) := by decide +kernel
theorem d_Md_act_103 : decode b_Md_act 103 = .ok (.getfield 17, 3) := by decide +kernel
theorem d_Md_act_106 : decode b_Md_act 106 = .ok (.iload_n 1, 1) := by decide +kernel
theorem d_Md_act_107 : decode b_Md_act 107 = .ok (.dup2, 1) := by decide +kernel
theorem d_Md_act_108 : decode b_Md_act 108 = .ok (.iaload, 1) := by decide +kernel
theorem d_Md_act_109 : decode b_Md_act 109 = .ok (.iconst 1, 1) := by decide +kernel
theorem d_Md_act_110 : decode b_Md_act 110 = .ok (.iadd, 1) := by decide +kernel
theorem d_Md_act_111 : decode b_Md_act 111 = .ok (.iastore, 1) := by decide +kernel
theorem d_Md_act_112 : decode b_Md_act 112 = .ok (.return_, 1) := by decide +kernel
theorem d_Md_execute_0 : decode b_Md_execute 0 = .ok (.iload_n 1, 1) := by decide +kernel
theorem d_Md_execute_1 : decode b_Md_execute 1 = .ok (.ifCond .lt 20, 3) := by decide +kernel
theorem d_Md_execute_4 : decode b_Md_execute 4 = .ok (.iload_n 1, 1) := by decide +kernel
theorem d_Md_execute_5 : decode b_Md_execute 5 = .ok (.aload_n 0, 1) := by decide +kernel
theorem d_Md_execute_6 : decode b_Md_execute 6 = .ok (.getfield 86, 3) := by decide +kernel
theorem d_Md_execute_9 : decode b_Md_execute 9 = .ok (.if_icmp .ge 12, 3) := by decide +kernel
theorem d_Md_execute_12 : decode b_Md_execute 12 = .ok (.aload_n 0, 1) := by decide +kernel
theorem d_Md_execute_13 : decode b_Md_execute 13 = .ok (.getfield 7, 3) := by decide +kernel
theorem d_Md_execute_16 : decode b_Md_execute 16 = .ok (.iload_n 1, 1) := by decide +kernel
theorem d_Md_execute_17 : decode b_Md_execute 17 = .ok (.baload, 1) := by decide +kernel
theorem d_Md_execute_18 : decode b_Md_execute 18 = .ok (.ifCond .eq 5, 3) := by decide +kernel
theorem d_Md_execute_21 : decode b_Md_execute 21 = .ok (.iconst (-1), 1) := by decide +kernel
theorem d_Md_execute_22 : decode b_Md_execute 22 = .ok (.ireturn, 1) := by decide +kernel
theorem d_Md_execute_23 : decode b_Md_execute 23 = .ok (.aload_n 0, 1) := by decide +kernel
theorem d_Md_execute_24 : decode b_Md_execute 24 = .ok (.getfield 17, 3) := by decide +kernel
theorem d_Md_execute_27 : decode b_Md_execute 27 = .ok (.iload_n 1, 1) := by decide +kernel
theorem d_Md_execute_28 : decode b_Md_execute 28 = .ok (.iaload, 1) := by decide +kernel
theorem d_Md_execute_29 : decode b_Md_execute 29 = .ok (.istore_n 2, 1) := by decide +kernel
theorem d_Md_execute_30 : decode b_Md_execute 30 = .ok (.iconst 1, 1) := by decide +kernel
theorem d_Md_execute_31 : decode b_Md_execute 31 = .ok (.istore_n 3, 1) := by decide +kernel
theorem d_Md_execute_32 : decode b_Md_execute 32 = .ok (.iconst 0, 1) := by decide +kernel
theorem d_Md_execute_33 : decode b_Md_execute 33 = .ok (.istore 4, 2) := by decide +kernel
theorem d_Md_execute_35 : decode b_Md_execute 35 = .ok (.iload 4, 2) := by decide +kernel
theorem d_Md_execute_37 : decode b_Md_execute 37 = .ok (.bipush 31, 2) := by decide +kernel
theorem d_Md_execute_39 : decode b_Md_execute 39 = .ok (.if_icmp .ge 126, 3) := by decide +kernel
theorem d_Md_execute_42 : decode b_Md_execute 42 = .ok (.iload_n 3, 1) := by decide +kernel
theorem d_Md_execute_43 : decode b_Md_execute 43 = .ok (.ifCond .eq 122, 3) := by decide +kernel
theorem d_Md_execute_46 : decode b_Md_execute 46 = .ok (.aload_n 0, 1) := by decide +kernel
theorem d_Md_execute_47 : decode b_Md_execute 47 = .ok (.iload_n 1, 1) := by decide +kernel
theorem d_Md_execute_48 : decode b_Md_execute 48 = .ok (.invokevirtual 181, 3) := by decide +kernel
theorem d_Md_execute_51 : decode b_Md_execute 51 = .ok (.iconst 0, 1) := by decide +kernel
theorem d_Md_execute_52 : decode b_Md_execute 52 = .ok (.istore 5, 2) := by decide +kernel
theorem d_Md_execute_54 : decode b_Md_execute 54 = .ok (.aload_n 0, 1) := by decide +kernel
theorem d_Md_execute_55 : decode b_Md_execute 55 = .ok (.getfield 93, 3) := by decide +kernel
theorem d_Md_execute_58 : decode b_Md_execute 58 = .ok (.iconst 1, 1) := by decide +kernel
theorem d_Md_execute_59 : decode b_Md_execute 59 = .ok (.isub, 1) := by decide +kernel
theorem d_Md_execute_60 : decode b_Md_execute 60 = .ok (.istore 6, 2) := by decide +kernel
theorem d_Md_execute_62 : decode b_Md_execute 62 = .ok (.iload 6, 2) := by decide +kernel
theorem d_Md_execute_64 : decode b_Md_execute 64 = .ok (.ifCond .lt 36, 3) := by decide +kernel
theorem d_Md_execute_67 : decode b_Md_execute 67 = .ok (.aload_n 0, 1) := by decide +kernel
theorem d_Md_execute_68 : decode b_Md_execute 68 = .ok (.iload 6, 2) := by decide +kernel
theorem d_Md_execute_70 : decode b_Md_execute 70 = .ok (.invokevirtual 184, 3) := by decide +kernel
theorem d_Md_execute_73 : decode b_Md_execute 73 = .ok (.istore 7, 2) := by decide +kernel
theorem d_Md_execute_75 : decode b_Md_execute 75 = .ok (.aload_n 0, 1) := by decide +kernel
theorem d_Md_execute_76 : decode b_Md_execute 76 = .ok (.iload_n 1, 1) := by decide +kernel
theorem d_Md_execute_77 : decode b_Md_execute 77 = .ok (.iload 7, 2) := by decide +kernel
theorem d_Md_execute_79 : decode b_Md_execute 79 = .ok (.invokevirtual 188, 3) := by decide +kernel
theorem d_Md_execute_82 : decode b_Md_execute 82 = .ok (.ifCond .eq 8, 3) := by decide +kernel
theorem d_Md_execute_85 : decode b_Md_execute 85 = .ok (.iload 7, 2) := by decide +kernel
theorem d_Md_execute_87 : decode b_Md_execute 87 = .ok (.goto 5, 3) := by decide +kernel
theorem d_Md_execute_90 : decode b_Md_execute 90 = .ok (.iload 5, 2) := by decide +kernel
theorem d_Md_execute_92 : decode b_Md_execute 92 = .ok (.istore 5, 2) := by decide +kernel
theorem d_Md_execute_94 : decode b_Md_execute 94 = .ok (.iinc 6 (-1), 3) := by decide +kernel
theorem d_Md_execute_97 : decode b_Md_execute 97 = .ok (.goto (-35), 3) := by decide +kernel
theorem d_Md_execute_100 : decode b_Md_execute 100 = .ok (.iload 5, 2) := by decide +kernel
theorem d_Md_execute_102 : decode b_Md_execute 102 = .ok (.ifCond .eq 7, 3) := by decide +kernel
theorem d_Md_execute_105 : decode b_Md_execute 105 = .ok (.iconst 1, 1) := by decide +kernel
theorem d_Md_execute_106 : decode b_Md_execute 106 = .ok (.goto 4, 3) := by decide +kernel
theorem d_Md_execute_109 : decode b_Md_execute 109 = .ok (.iconst 0, 1) := by decide +kernel
theorem d_Md_execute_110 : decode b_Md_execute 110 = .ok (.istore_n 3, 1) := by decide +kernel
theorem d_Md_execute_111 : decode b_Md_execute 111 = .ok (.iconst 0, 1) := by decide +kernel
theorem d_Md_execute_112 : decode b_Md_execute 112 = .ok (.istore 6, 2) := by decide +kernel
theorem d_Md_execute_114 : decode b_Md_execute 114 = .ok (.iload 6, 2) := by decide +kernel
theorem d_Md_execute_116 : decode b_Md_execute 116 = .ok (.bipush 30, 2) := by decide +kernel
theorem d_Md_execute_118 : decode b_Md_execute 118 = .ok (.if_icmp .ge 41, 3) := by decide +kernel
theorem d_Md_execute_121 : decode b_Md_execute 121 = .ok (.iload 5, 2) := by decide +kernel
theorem d_Md_execute_123 : decode b_Md_execute 123 = .ok (.ifCond .eq 36, 3) := by decide +kernel
theorem d_Md_execute_126 : decode b_Md_execute 126 = .ok (.aload_n 0, 1) := by decide +kernel
theorem d_Md_execute_127 : decode b_Md_execute 127 = .ok (.iload_n 1, 1) := by decide +kernel
theorem d_Md_execute_128 : decode b_Md_execute 128 = .ok (.iload 5, 2) := by decide +kernel
theorem d_Md_execute_130 : decode b_Md_execute 130 = .ok (.invokevirtual 191, 3) := by decide +kernel
theorem d_Md_execute_133 : decode b_Md_execute 133 = .ok (.istore 7, 2) := by decide +kernel
theorem d_Md_execute_135 : decode b_Md_execute 135 = .ok (.aload_n 0, 1) := by decide +kernel
theorem d_Md_execute_136 : decode b_Md_execute 136 = .ok (.iload_n 1, 1) := by decide +kernel
theorem d_Md_execute_137 : decode b_Md_execute 137 = .ok (.iload 7, 2) := by decide +kernel
theorem d_Md_execute_139 : decode b_Md_execute 139 = .ok (.invokevirtual 194, 3) := by decide +kernel
theorem d_Md_execute_142 : decode b_Md_execute 142 = .ok (.iload 5, 2) := by decide +kernel
theorem d_Md_execute_144 : decode b_Md_execute 144 = .ok (.iconst 1, 1) := by decide +kernel
theorem d_Md_execute_145 : decode b_Md_execute 145 = .ok (.iload 7, 2) := by decide +kernel
theorem d_Md_execute_147 : decode b_Md_execute 147 = .ok (.ishl, 1) := by decide +kernel
theorem d_Md_execute_148 : decode b_Md_execute 148 = .ok (.iconst (-1), 1) := by decide +kernel
theorem d_Md_execute_149 : decode b_Md_execute 149 = .ok (.ixor, 1) := by decide +kernel
theorem d_Md_execute_150 : decode b_Md_execute 150 = .ok (.iand, 1) := by decide +kernel
theorem d_Md_execute_151 : decode b_Md_execute 151 = .ok (.istore 5, 2) := by decide +kernel
theorem d_Md_execute_153 : decode b_Md_execute 153 = .ok (.iinc 6 1, 3) := by decide +kernel
theorem d_Md_execute_156 : decode b_Md_execute 156 = .ok (.goto (-42), 3) := by decide +kernel
theorem d_Md_execute_159 : decode b_Md_execute 159 = .ok (.iinc 4 1, 3) := by decide +kernel
theorem d_Md_execute_162 : decode b_Md_execute 162 = .ok (.goto (-127), 3) := by decide +kernel
theorem d_Md_execute_165 : decode b_Md_execute 165 = .ok (.aload_n 0, 1) := by decide +kernel
theorem d_Md_execute_166 : decode b_Md_execute 166 = .ok (.getfield 17, 3) := by decide +kernel
theorem d_Md_execute_169 : decode b_Md_execute 169 = .ok (.iload_n 1, 1) := by decide +kernel
theorem d_Md_execute_170 : decode b_Md_execute 170 = .ok (.iaload, 1) := by decide +kernel
theorem d_Md_execute_171 : decode b_Md_execute 171 = .ok (.iload_n 2, 1) := by decide +kernel
theorem d_Md_execute_172 : decode b_Md_execute 172 = .ok (.isub, 1) := by decide +kernel
theorem d_Md_execute_173 : decode b_Md_execute 173 = .ok (.ireturn, 1) := by decide +kernel
theorem d_Md_waiting_0 : decode b_Md_waiting 0 = .ok (.aload_n 0, 1) := by decide +kernel
theorem d_Md_waiting_1 : decode b_Md_waiting 1 = .ok (.getfield 108, 3) := by decide +kernel
theorem d_Md_waiting_4 : decode b_Md_waiting 4 = .ok (.ireturn, 1) := by decide +kernel
theorem d_Md_message_0 : decode b_Md_message 0 = .ok (.iload_n 1, 1) := by decide +kernel
theorem d_Md_message_1 : decode b_Md_message 1 = .ok (.ifCond .lt 11, 3) := by decide +kernel
theorem d_Md_message_4 : decode b_Md_message 4 = .ok (.iload_n 1, 1) := by decide +kernel
theorem d_Md_message_5 : decode b_Md_message 5 = .ok (.aload_n 0, 1) := by decide +kernel
theorem d_Md_message_6 : decode b_Md_message 6 = .ok (.getfield 108, 3) := by decide +kernel
theorem d_Md_message_9 : decode b_Md_message 9 = .ok (.if_icmp .lt 5, 3) := by decide +kernel
theorem d_Md_message_12 : decode b_Md_message 12 = .ok (.iconst (-1), 1) := by decide +kernel
theorem d_Md_message_13 : decode b_Md_message 13 = .ok (.ireturn, 1) := by decide +kernel
theorem d_Md_message_14 : decode b_Md_message 14 = .ok (.bipush 11, 2) := by decide +kernel
theorem d_Md_message_16 : decode b_Md_message 16 = .ok (.iload_n 1, 1) := by decide +kernel
theorem d_Md_message_17 : decode b_Md_message 17 = .ok (.imul, 1) := by decide +kernel
theorem d_Md_message_18 : decode b_Md_message 18 = .ok (.istore_n 2, 1) := by decide +kernel
theorem d_Md_message_19 : decode b_Md_message 19 = .ok (.aload_n 0, 1) := by decide +kernel
theorem d_Md_message_20 : decode b_Md_message 20 = .ok (.getfield 80, 3) := by decide +kernel
theorem d_Md_message_23 : decode b_Md_message 23 = .ok (.iload_n 2, 1) := by decide +kernel
theorem d_Md_message_24 : decode b_Md_message 24 = .ok (.iaload, 1) := by decide +kernel
theorem d_Md_message_25 : decode b_Md_message 25 = .ok (.bipush 8, 2) := by decide +kernel
theorem d_Md_message_27 : decode b_Md_message 27 = .ok (.aload_n 0, 1) := by decide +kernel
theorem d_Md_message_28 : decode b_Md_message 28 = .ok (.getfield 80, 3) := by decide +kernel
theorem d_Md_message_31 : decode b_Md_message 31 = .ok (.iload_n 2, 1) := by decide +kernel
theorem d_Md_message_32 : decode b_Md_message 32 = .ok (.iconst 1, 1) := by decide +kernel
theorem d_Md_message_33 : decode b_Md_message 33 = .ok (.iadd, 1) := by decide +kernel
theorem d_Md_message_34 : decode b_Md_message 34 = .ok (.iaload, 1) := by decide +kernel
theorem d_Md_message_35 : decode b_Md_message 35 = .ok (.imul, 1) := by decide +kernel
theorem d_Md_message_36 : decode b_Md_message 36 = .ok (.iadd, 1) := by decide +kernel
theorem d_Md_message_37 : decode b_Md_message 37 = .ok (.bipush 64, 2) := by decide +kernel
theorem d_Md_message_39 : decode b_Md_message 39 = .ok (.aload_n 0, 1) := by decide +kernel
theorem d_Md_message_40 : decode b_Md_message 40 = .ok (.getfield 80, 3) := by decide +kernel
theorem d_Md_message_43 : decode b_Md_message 43 = .ok (.iload_n 2, 1) := by decide +kernel
theorem d_Md_message_44 : decode b_Md_message 44 = .ok (.iconst 2, 1) := by decide +kernel
theorem d_Md_message_45 : decode b_Md_message 45 = .ok (.iadd, 1) := by decide +kernel
theorem d_Md_message_46 : decode b_Md_message 46 = .ok (.iaload, 1) := by decide +kernel
theorem d_Md_message_47 : decode b_Md_message 47 = .ok (.imul, 1) := by decide +kernel
theorem d_Md_message_48 : decode b_Md_message 48 = .ok (.iadd, 1) := by decide +kernel
theorem d_Md_message_49 : decode b_Md_message 49 = .ok (.sipush 512, 3) := by decide +kernel
theorem d_Md_message_52 : decode b_Md_message 52 = .ok (.aload_n 0, 1) := by decide +kernel
theorem d_Md_message_53 : decode b_Md_message 53 = .ok (.getfield 80, 3) := by decide +kernel
theorem d_Md_message_56 : decode b_Md_message 56 = .ok (.iload_n 2, 1) := by decide +kernel
theorem d_Md_message_57 : decode b_Md_message 57 = .ok (.iconst 3, 1) := by decide +kernel
theorem d_Md_message_58 : decode b_Md_message 58 = .ok (.iadd, 1) := by decide +kernel
theorem d_Md_message_59 : decode b_Md_message 59 = .ok (.iaload, 1) := by decide +kernel
theorem d_Md_message_60 : decode b_Md_message 60 = .ok (.imul, 1) := by decide +kernel
theorem d_Md_message_61 : decode b_Md_message 61 = .ok (.iadd, 1) := by decide +kernel
theorem d_Md_message_62 : decode b_Md_message 62 = .ok (.ireturn, 1) := by decide +kernel
theorem d_Md_lost_0 : decode b_Md_lost 0 = .ok (.aload_n 0, 1) := by decide +kernel
theorem d_Md_lost_1 : decode b_Md_lost 1 = .ok (.getfield 111, 3) := by decide +kernel
theorem d_Md_lost_4 : decode b_Md_lost 4 = .ok (.ireturn, 1) := by decide +kernel
theorem d_Md_named_0 : decode b_Md_named 0 = .ok (.aload_n 0, 1) := by decide +kernel
theorem d_Md_named_1 : decode b_Md_named 1 = .ok (.iload_n 1, 1) := by decide +kernel
theorem d_Md_named_2 : decode b_Md_named 2 = .ok (.iload_n 2, 1) := by decide +kernel
theorem d_Md_named_3 : decode b_Md_named 3 = .ok (.invokevirtual 178, 3) := by decide +kernel
theorem d_Md_named_6 : decode b_Md_named 6 = .ok (.ifCond .eq 21, 3) := by decide +kernel
theorem d_Md_named_9 : decode b_Md_named 9 = .ok (.aload_n 0, 1) := by decide +kernel
theorem d_Md_named_10 : decode b_Md_named 10 = .ok (.getfield 20, 3) := by decide +kernel
theorem d_Md_named_13 : decode b_Md_named 13 = .ok (.bipush 30, 2) := by decide +kernel
theorem d_Md_named_15 : decode b_Md_named 15 = .ok (.iload_n 1, 1) := by decide +kernel
theorem d_Md_named_16 : decode b_Md_named 16 = .ok (.imul, 1) := by decide +kernel
theorem d_Md_named_17 : decode b_Md_named 17 = .ok (.iload_n 2, 1) := by decide +kernel
theorem d_Md_named_18 : decode b_Md_named 18 = .ok (.iadd, 1) := by decide +kernel
theorem d_Md_named_19 : decode b_Md_named 19 = .ok (.iaload, 1) := by decide +kernel
theorem d_Md_named_20 : decode b_Md_named 20 = .ok (.ifCond .eq 7, 3) := by decide +kernel
theorem d_Md_named_23 : decode b_Md_named 23 = .ok (.iconst 1, 1) := by decide +kernel
theorem d_Md_named_24 : decode b_Md_named 24 = .ok (.goto 4, 3) := by decide +kernel
theorem d_Md_named_27 : decode b_Md_named 27 = .ok (.iconst 0, 1) := by decide +kernel
theorem d_Md_named_28 : decode b_Md_named 28 = .ok (.ireturn, 1) := by decide +kernel
theorem d_Md_state_0 : decode b_Md_state 0 = .ok (.aload_n 0, 1) := by decide +kernel
theorem d_Md_state_1 : decode b_Md_state 1 = .ok (.iload_n 1, 1) := by decide +kernel
theorem d_Md_state_2 : decode b_Md_state 2 = .ok (.iload_n 2, 1) := by decide +kernel
theorem d_Md_state_3 : decode b_Md_state 3 = .ok (.invokevirtual 178, 3) := by decide +kernel
theorem d_Md_state_6 : decode b_Md_state 6 = .ok (.ifCond .eq 17, 3) := by decide +kernel
theorem d_Md_state_9 : decode b_Md_state 9 = .ok (.aload_n 0, 1) := by decide +kernel
theorem d_Md_state_10 : decode b_Md_state 10 = .ok (.getfield 20, 3) := by decide +kernel
theorem d_Md_state_13 : decode b_Md_state 13 = .ok (.bipush 30, 2) := by decide +kernel
theorem d_Md_state_15 : decode b_Md_state 15 = .ok (.iload_n 1, 1) := by decide +kernel
theorem d_Md_state_16 : decode b_Md_state 16 = .ok (.imul, 1) := by decide +kernel
theorem d_Md_state_17 : decode b_Md_state 17 = .ok (.iload_n 2, 1) := by decide +kernel
theorem d_Md_state_18 : decode b_Md_state 18 = .ok (.iadd, 1) := by decide +kernel
theorem d_Md_state_19 : decode b_Md_state 19 = .ok (.iaload, 1) := by decide +kernel
theorem d_Md_state_20 : decode b_Md_state 20 = .ok (.goto 4, 3) := by decide +kernel
theorem d_Md_state_23 : decode b_Md_state 23 = .ok (.iconst (-1), 1) := by decide +kernel
theorem d_Md_state_24 : decode b_Md_state 24 = .ok (.ireturn, 1) := by decide +kernel
theorem d_Md_command_0 : decode b_Md_command 0 = .ok (.aload_n 0, 1) := by decide +kernel
theorem d_Md_command_1 : decode b_Md_command 1 = .ok (.iload_n 1, 1) := by decide +kernel
theorem d_Md_command_2 : decode b_Md_command 2 = .ok (.iload_n 2, 1) := by decide +kernel
theorem d_Md_command_3 : decode b_Md_command 3 = .ok (.invokevirtual 197, 3) := by decide +kernel
theorem d_Md_command_6 : decode b_Md_command 6 = .ok (.ifCond .eq 17, 3) := by decide +kernel
theorem d_Md_command_9 : decode b_Md_command 9 = .ok (.aload_n 0, 1) := by decide +kernel
theorem d_Md_command_10 : decode b_Md_command 10 = .ok (.getfield 23, 3) := by decide +kernel
theorem d_Md_command_13 : decode b_Md_command 13 = .ok (.bipush 30, 2) := by decide +kernel
theorem d_Md_command_15 : decode b_Md_command 15 = .ok (.iload_n 1, 1) := by decide +kernel
theorem d_Md_command_16 : decode b_Md_command 16 = .ok (.imul, 1) := by decide +kernel
theorem d_Md_command_17 : decode b_Md_command 17 = .ok (.iload_n 2, 1) := by decide +kernel
theorem d_Md_command_18 : decode b_Md_command 18 = .ok (.iadd, 1) := by decide +kernel
theorem d_Md_command_19 : decode b_Md_command 19 = .ok (.iaload, 1) := by decide +kernel
theorem d_Md_command_20 : decode b_Md_command 20 = .ok (.goto 4, 3) := by decide +kernel
theorem d_Md_command_23 : decode b_Md_command 23 = .ok (.iconst (-1), 1) := by decide +kernel
theorem d_Md_command_24 : decode b_Md_command 24 = .ok (.ireturn, 1) := by decide +kernel
theorem d_Md_seq_0 : decode b_Md_seq 0 = .ok (.aload_n 0, 1) := by decide +kernel
theorem d_Md_seq_1 : decode b_Md_seq 1 = .ok (.iload_n 1, 1) := by decide +kernel
theorem d_Md_seq_2 : decode b_Md_seq 2 = .ok (.iload_n 2, 1) := by decide +kernel
theorem d_Md_seq_3 : decode b_Md_seq 3 = .ok (.invokevirtual 197, 3) := by decide +kernel
theorem d_Md_seq_6 : decode b_Md_seq 6 = .ok (.ifCond .eq 17, 3) := by decide +kernel
theorem d_Md_seq_9 : decode b_Md_seq 9 = .ok (.aload_n 0, 1) := by decide +kernel
theorem d_Md_seq_10 : decode b_Md_seq 10 = .ok (.getfield 29, 3) := by decide +kernel
theorem d_Md_seq_13 : decode b_Md_seq 13 = .ok (.bipush 30, 2) := by decide +kernel
theorem d_Md_seq_15 : decode b_Md_seq 15 = .ok (.iload_n 1, 1) := by decide +kernel
theorem d_Md_seq_16 : decode b_Md_seq 16 = .ok (.imul, 1) := by decide +kernel
theorem d_Md_seq_17 : decode b_Md_seq 17 = .ok (.iload_n 2, 1) := by decide +kernel
theorem d_Md_seq_18 : decode b_Md_seq 18 = .ok (.iadd, 1) := by decide +kernel
theorem d_Md_seq_19 : decode b_Md_seq 19 = .ok (.iaload, 1) := by decide +kernel
theorem d_Md_seq_20 : decode b_Md_seq 20 = .ok (.goto 4, 3) := by decide +kernel
theorem d_Md_seq_23 : decode b_Md_seq 23 = .ok (.iconst (-1), 1) := by decide +kernel
theorem d_Md_seq_24 : decode b_Md_seq 24 = .ok (.ireturn, 1) := by decide +kernel
theorem d_Md_deps_0 : decode b_Md_deps 0 = .ok (.aload_n 0, 1) := by decide +kernel
theorem d_Md_deps_1 : decode b_Md_deps 1 = .ok (.iload_n 1, 1) := by decide +kernel
theorem d_Md_deps_2 : decode b_Md_deps 2 = .ok (.iload_n 2, 1) := by decide +kernel
theorem d_Md_deps_3 : decode b_Md_deps 3 = .ok (.invokevirtual 197, 3) := by decide +kernel
theorem d_Md_deps_6 : decode b_Md_deps 6 = .ok (.ifCond .eq 17, 3) := by decide +kernel
theorem d_Md_deps_9 : decode b_Md_deps 9 = .ok (.aload_n 0, 1) := by decide +kernel
theorem d_Md_deps_10 : decode b_Md_deps 10 = .ok (.getfield 32, 3) := by decide +kernel
theorem d_Md_deps_13 : decode b_Md_deps 13 = .ok (.bipush 30, 2) := by decide +kernel
theorem d_Md_deps_15 : decode b_Md_deps 15 = .ok (.iload_n 1, 1) := by decide +kernel
theorem d_Md_deps_16 : decode b_Md_deps 16 = .ok (.imul, 1) := by decide +kernel
theorem d_Md_deps_17 : decode b_Md_deps 17 = .ok (.iload_n 2, 1) := by decide +kernel
theorem d_Md_deps_18 : decode b_Md_deps 18 = .ok (.iadd, 1) := by decide +kernel
theorem d_Md_deps_19 : decode b_Md_deps 19 = .ok (.iaload, 1) := by decide +kernel
theorem d_Md_deps_20 : decode b_Md_deps 20 = .ok (.goto 4, 3) := by decide +kernel
theorem d_Md_deps_23 : decode b_Md_deps 23 = .ok (.iconst (-1), 1) := by decide +kernel
theorem d_Md_deps_24 : decode b_Md_deps 24 = .ok (.ireturn, 1) := by decide +kernel
theorem d_Md_promised_0 : decode b_Md_promised 0 = .ok (.aload_n 0, 1) := by decide +kernel
theorem d_Md_promised_1 : decode b_Md_promised 1 = .ok (.iload_n 1, 1) := by decide +kernel
theorem d_Md_promised_2 : decode b_Md_promised 2 = .ok (.iload_n 2, 1) := by decide +kernel
theorem d_Md_promised_3 : decode b_Md_promised 3 = .ok (.invokevirtual 178, 3) := by decide +kernel
theorem d_Md_promised_6 : decode b_Md_promised 6 = .ok (.ifCond .eq 17, 3) := by decide +kernel
theorem d_Md_promised_9 : decode b_Md_promised 9 = .ok (.aload_n 0, 1) := by decide +kernel
theorem d_Md_promised_10 : decode b_Md_promised 10 = .ok (.getfield 35, 3) := by decide +kernel
theorem d_Md_promised_13 : decode b_Md_promised 13 = .ok (.bipush 30, 2) := by decide +kernel
theorem d_Md_promised_15 : decode b_Md_promised 15 = .ok (.iload_n 1, 1) := by decide +kernel
theorem d_Md_promised_16 : decode b_Md_promised 16 = .ok (.imul, 1) := by decide +kernel
theorem d_Md_promised_17 : decode b_Md_promised 17 = .ok (.iload_n 2, 1) := by decide +kernel
theorem d_Md_promised_18 : decode b_Md_promised 18 = .ok (.iadd, 1) := by decide +kernel
theorem d_Md_promised_19 : decode b_Md_promised 19 = .ok (.iaload, 1) := by decide +kernel
theorem d_Md_promised_20 : decode b_Md_promised 20 = .ok (.goto 4, 3) := by decide +kernel
theorem d_Md_promised_23 : decode b_Md_promised 23 = .ok (.iconst (-1), 1) := by decide +kernel
theorem d_Md_promised_24 : decode b_Md_promised 24 = .ok (.ireturn, 1) := by decide +kernel
theorem d_Md_over_0 : decode b_Md_over 0 = .ok (.aload_n 0, 1) := by decide +kernel
theorem d_Md_over_1 : decode b_Md_over 1 = .ok (.iload_n 1, 1) := by decide +kernel
theorem d_Md_over_2 : decode b_Md_over 2 = .ok (.iload_n 2, 1) := by decide +kernel
theorem d_Md_over_3 : decode b_Md_over 3 = .ok (.invokevirtual 178, 3) := by decide +kernel
theorem d_Md_over_6 : decode b_Md_over 6 = .ok (.ifCond .eq 22, 3) := by decide +kernel
theorem d_Md_over_9 : decode b_Md_over 9 = .ok (.aload_n 0, 1) := by decide +kernel
theorem d_Md_over_10 : decode b_Md_over 10 = .ok (.getfield 20, 3) := by decide +kernel
theorem d_Md_over_13 : decode b_Md_over 13 = .ok (.bipush 30, 2) := by decide +kernel
theorem d_Md_over_15 : decode b_Md_over 15 = .ok (.iload_n 1, 1) := by decide +kernel
theorem d_Md_over_16 : decode b_Md_over 16 = .ok (.imul, 1) := by decide +kernel
theorem d_Md_over_17 : decode b_Md_over 17 = .ok (.iload_n 2, 1) := by decide +kernel
theorem d_Md_over_18 : decode b_Md_over 18 = .ok (.iadd, 1) := by decide +kernel
theorem d_Md_over_19 : decode b_Md_over 19 = .ok (.iaload, 1) := by decide +kernel
theorem d_Md_over_20 : decode b_Md_over 20 = .ok (.iconst 4, 1) := by decide +kernel
theorem d_Md_over_21 : decode b_Md_over 21 = .ok (.if_icmp .ne 7, 3) := by decide +kernel
theorem d_Md_over_24 : decode b_Md_over 24 = .ok (.iconst 1, 1) := by decide +kernel
theorem d_Md_over_25 : decode b_Md_over 25 = .ok (.goto 4, 3) := by decide +kernel
theorem d_Md_over_28 : decode b_Md_over 28 = .ok (.iconst 0, 1) := by decide +kernel
theorem d_Md_over_29 : decode b_Md_over 29 = .ok (.ireturn, 1) := by decide +kernel
theorem d_Md_result_0 : decode b_Md_result 0 = .ok (.aload_n 0, 1) := by decide +kernel
theorem d_Md_result_1 : decode b_Md_result 1 = .ok (.iload_n 1, 1) := by decide +kernel
theorem d_Md_result_2 : decode b_Md_result 2 = .ok (.iload_n 2, 1) := by decide +kernel
theorem d_Md_result_3 : decode b_Md_result 3 = .ok (.invokevirtual 200, 3) := by decide +kernel
theorem d_Md_result_6 : decode b_Md_result 6 = .ok (.ifCond .eq 17, 3) := by decide +kernel
theorem d_Md_result_9 : decode b_Md_result 9 = .ok (.aload_n 0, 1) := by decide +kernel
theorem d_Md_result_10 : decode b_Md_result 10 = .ok (.getfield 44, 3) := by decide +kernel
theorem d_Md_result_13 : decode b_Md_result 13 = .ok (.bipush 30, 2) := by decide +kernel
theorem d_Md_result_15 : decode b_Md_result 15 = .ok (.iload_n 1, 1) := by decide +kernel
theorem d_Md_result_16 : decode b_Md_result 16 = .ok (.imul, 1) := by decide +kernel
theorem d_Md_result_17 : decode b_Md_result 17 = .ok (.iload_n 2, 1) := by decide +kernel
theorem d_Md_result_18 : decode b_Md_result 18 = .ok (.iadd, 1) := by decide +kernel
theorem d_Md_result_19 : decode b_Md_result 19 = .ok (.iaload, 1) := by decide +kernel
theorem d_Md_result_20 : decode b_Md_result 20 = .ok (.goto 4, 3) := by decide +kernel
theorem d_Md_result_23 : decode b_Md_result 23 = .ok (.iconst 0, 1) := by decide +kernel
theorem d_Md_result_24 : decode b_Md_result 24 = .ok (.ireturn, 1) := by decide +kernel
theorem d_Md_place_0 : decode b_Md_place 0 = .ok (.aload_n 0, 1) := by decide +kernel
theorem d_Md_place_1 : decode b_Md_place 1 = .ok (.iload_n 1, 1) := by decide +kernel
theorem d_Md_place_2 : decode b_Md_place 2 = .ok (.iload_n 2, 1) := by decide +kernel
theorem d_Md_place_3 : decode b_Md_place 3 = .ok (.invokevirtual 200, 3) := by decide +kernel
theorem d_Md_place_6 : decode b_Md_place 6 = .ok (.ifCond .eq 17, 3) := by decide +kernel
theorem d_Md_place_9 : decode b_Md_place 9 = .ok (.aload_n 0, 1) := by decide +kernel
theorem d_Md_place_10 : decode b_Md_place 10 = .ok (.getfield 41, 3) := by decide +kernel
theorem d_Md_place_13 : decode b_Md_place 13 = .ok (.bipush 30, 2) := by decide +kernel
theorem d_Md_place_15 : decode b_Md_place 15 = .ok (.iload_n 1, 1) := by decide +kernel
theorem d_Md_place_16 : decode b_Md_place 16 = .ok (.imul, 1) := by decide +kernel
theorem d_Md_place_17 : decode b_Md_place 17 = .ok (.iload_n 2, 1) := by decide +kernel
theorem d_Md_place_18 : decode b_Md_place 18 = .ok (.iadd, 1) := by decide +kernel
theorem d_Md_place_19 : decode b_Md_place 19 = .ok (.iaload, 1) := by decide +kernel
theorem d_Md_place_20 : decode b_Md_place 20 = .ok (.goto 4, 3) := by decide +kernel
theorem d_Md_place_23 : decode b_Md_place 23 = .ok (.iconst (-1), 1) := by decide +kernel
theorem d_Md_place_24 : decode b_Md_place 24 = .ok (.ireturn, 1) := by decide +kernel
theorem d_Md_value_0 : decode b_Md_value 0 = .ok (.iload_n 1, 1) := by decide +kernel
theorem d_Md_value_1 : decode b_Md_value 1 = .ok (.ifCond .lt 33, 3) := by decide +kernel
theorem d_Md_value_4 : decode b_Md_value 4 = .ok (.iload_n 1, 1) := by decide +kernel
theorem d_Md_value_5 : decode b_Md_value 5 = .ok (.aload_n 0, 1) := by decide +kernel
theorem d_Md_value_6 : decode b_Md_value 6 = .ok (.getfield 86, 3) := by decide +kernel
theorem d_Md_value_9 : decode b_Md_value 9 = .ok (.if_icmp .ge 25, 3) := by decide +kernel
theorem d_Md_value_12 : decode b_Md_value 12 = .ok (.iload_n 2, 1) := by decide +kernel
theorem d_Md_value_13 : decode b_Md_value 13 = .ok (.ifCond .lt 21, 3) := by decide +kernel
theorem d_Md_value_16 : decode b_Md_value 16 = .ok (.iload_n 2, 1) := by decide +kernel
theorem d_Md_value_17 : decode b_Md_value 17 = .ok (.iconst 4, 1) := by decide +kernel
theorem d_Md_value_18 : decode b_Md_value 18 = .ok (.if_icmp .ge 16, 3) := by decide +kernel
theorem d_Md_value_21 : decode b_Md_value 21 = .ok (.aload_n 0, 1) := by decide +kernel
theorem d_Md_value_22 : decode b_Md_value 22 = .ok (.getfield 13, 3) := by decide +kernel
theorem d_Md_value_25 : decode b_Md_value 25 = .ok (.iconst 4, 1) := by decide +kernel
theorem d_Md_value_26 : decode b_Md_value 26 = .ok (.iload_n 1, 1) := by decide +kernel
theorem d_Md_value_27 : decode b_Md_value 27 = .ok (.imul, 1) := by decide +kernel
theorem d_Md_value_28 : decode b_Md_value 28 = .ok (.iload_n 2, 1) := by decide +kernel
theorem d_Md_value_29 : decode b_Md_value 29 = .ok (.iadd, 1) := by decide +kernel
theorem d_Md_value_30 : decode b_Md_value 30 = .ok (.iaload, 1) := by decide +kernel
theorem d_Md_value_31 : decode b_Md_value 31 = .ok (.goto 4, 3) := by decide +kernel
theorem d_Md_value_34 : decode b_Md_value 34 = .ok (.iconst 0, 1) := by decide +kernel
theorem d_Md_value_35 : decode b_Md_value 35 = .ok (.ireturn, 1) := by decide +kernel
theorem d_Law_cell_0 : decode b_Law_cell 0 = .ok (.iload_n 1, 1) := by decide +kernel
theorem d_Law_cell_1 : decode b_Law_cell 1 = .ok (.aload_n 0, 1) := by decide +kernel
theorem d_Law_cell_2 : decode b_Law_cell 2 = .ok (.arraylength, 1) := by decide +kernel
theorem d_Law_cell_3 : decode b_Law_cell 3 = .ok (.if_icmp .ge 9, 3) := by decide +kernel
theorem d_Law_cell_6 : decode b_Law_cell 6 = .ok (.aload_n 0, 1) := by decide +kernel
theorem d_Law_cell_7 : decode b_Law_cell 7 = .ok (.iload_n 1, 1) := by decide +kernel
theorem d_Law_cell_8 : decode b_Law_cell 8 = .ok (.iaload, 1) := by decide +kernel
theorem d_Law_cell_9 : decode b_Law_cell 9 = .ok (.goto 4, 3) := by decide +kernel
theorem d_Law_cell_12 : decode b_Law_cell 12 = .ok (.iconst 0, 1) := by decide +kernel
theorem d_Law_cell_13 : decode b_Law_cell 13 = .ok (.ireturn, 1) := by decide +kernel
end
section
theorem d_Law_law_0 : decode b_Law_law 0 = .ok (.new 7, 3) := by decide +kernel
theorem d_Law_law_3 : decode b_Law_law 3 = .ok (.dup, 1) := by decide +kernel
theorem d_Law_law_4 : decode b_Law_law 4 = .ok (.aload_n 0, 1) := by decide +kernel
theorem d_Law_law_5 : decode b_Law_law 5 = .ok (.iconst 0, 1) := by decide +kernel
theorem d_Law_law_6 : decode b_Law_law 6 = .ok (.invokestatic 9, 3) := by decide +kernel
theorem d_Law_law_9 : decode b_Law_law 9 = .ok (.invokespecial 15, 3) := by decide +kernel
theorem d_Law_law_12 : decode b_Law_law 12 = .ok (.astore_n 1, 1) := by decide +kernel
theorem d_Law_law_13 : decode b_Law_law 13 = .ok (.new 18, 3) := by decide +kernel
theorem d_Law_law_16 : decode b_Law_law 16 = .ok (.dup, 1) := by decide +kernel
theorem d_Law_law_17 : decode b_Law_law 17 = .ok (.aload_n 0, 1) := by decide +kernel
theorem d_Law_law_18 : decode b_Law_law 18 = .ok (.iconst 0, 1) := by decide +kernel
theorem d_Law_law_19 : decode b_Law_law 19 = .ok (.invokestatic 9, 3) := by decide +kernel
theorem d_Law_law_22 : decode b_Law_law 22 = .ok (.invokespecial 20, 3) := by decide +kernel
theorem d_Law_law_25 : decode b_Law_law 25 = .ok (.astore_n 2, 1) := by decide +kernel
theorem d_Law_law_26 : decode b_Law_law 26 = .ok (.iconst 1, 1) := by decide +kernel
theorem d_Law_law_27 : decode b_Law_law 27 = .ok (.istore_n 3, 1) := by decide +kernel
theorem d_Law_law_28 : decode b_Law_law 28 = .ok (.iload_n 3, 1) := by decide +kernel
theorem d_Law_law_29 : decode b_Law_law 29 = .ok (.aload_n 0, 1) := by decide +kernel
theorem d_Law_law_30 : decode b_Law_law 30 = .ok (.arraylength, 1) := by decide +kernel
theorem d_Law_law_31 : decode b_Law_law 31 = .ok (.iconst 5, 1) := by decide +kernel
theorem d_Law_law_32 : decode b_Law_law 32 = .ok (.isub, 1) := by decide +kernel
theorem d_Law_law_33 : decode b_Law_law 33 = .ok (.if_icmp .gt 604, 3) := by decide +kernel
theorem d_Law_law_36 : decode b_Law_law 36 = .ok (.aload_n 0, 1) := by decide +kernel
theorem d_Law_law_37 : decode b_Law_law 37 = .ok (.iload_n 3, 1) := by decide +kernel
theorem d_Law_law_38 : decode b_Law_law 38 = .ok (.iaload, 1) := by decide +kernel
theorem d_Law_law_39 : decode b_Law_law 39 = .ok (.bipush 31, 2) := by decide +kernel
theorem d_Law_law_41 : decode b_Law_law 41 = .ok (.iand, 1) := by decide +kernel
theorem d_Law_law_42 : decode b_Law_law 42 = .ok (.tableswitch 589 0 16 #[82, 151, 184, 207, 230, 253, 276, 289, 312, 325, 358, 391, 424, 457, 490, 523, 556], 82) := by decide +kernel
theorem d_Law_law_124 : decode b_Law_law 124 = .ok (.aload_n 1, 1) := by decide +kernel
theorem d_Law_law_125 : decode b_Law_law 125 = .ok (.aload_n 0, 1) := by decide +kernel
theorem d_Law_law_126 : decode b_Law_law 126 = .ok (.iload_n 3, 1) := by decide +kernel
theorem d_Law_law_127 : decode b_Law_law 127 = .ok (.iconst 1, 1) := by decide +kernel
theorem d_Law_law_128 : decode b_Law_law 128 = .ok (.iadd, 1) := by decide +kernel
theorem d_Law_law_129 : decode b_Law_law 129 = .ok (.iaload, 1) := by decide +kernel
theorem d_Law_law_130 : decode b_Law_law 130 = .ok (.aload_n 0, 1) := by decide +kernel
theorem d_Law_law_131 : decode b_Law_law 131 = .ok (.iload_n 3, 1) := by decide +kernel
theorem d_Law_law_132 : decode b_Law_law 132 = .ok (.iconst 2, 1) := by decide +kernel
theorem d_Law_law_133 : decode b_Law_law 133 = .ok (.iadd, 1) := by decide +kernel
theorem d_Law_law_134 : decode b_Law_law 134 = .ok (.iaload, 1) := by decide +kernel
theorem d_Law_law_135 : decode b_Law_law 135 = .ok (.aload_n 0, 1) := by decide +kernel
theorem d_Law_law_136 : decode b_Law_law 136 = .ok (.iload_n 3, 1) := by decide +kernel
theorem d_Law_law_137 : decode b_Law_law 137 = .ok (.iconst 3, 1) := by decide +kernel
theorem d_Law_law_138 : decode b_Law_law 138 = .ok (.iadd, 1) := by decide +kernel
theorem d_Law_law_139 : decode b_Law_law 139 = .ok (.iaload, 1) := by decide +kernel
theorem d_Law_law_140 : decode b_Law_law 140 = .ok (.ifCond .eq 7, 3) := by decide +kernel
theorem d_Law_law_143 : decode b_Law_law 143 = .ok (.iconst 1, 1) := by decide +kernel
theorem d_Law_law_144 : decode b_Law_law 144 = .ok (.goto 4, 3) := by decide +kernel
theorem d_Law_law_147 : decode b_Law_law 147 = .ok (.iconst 0, 1) := by decide +kernel
theorem d_Law_law_148 : decode b_Law_law 148 = .ok (.aload_n 0, 1) := by decide +kernel
theorem d_Law_law_149 : decode b_Law_law 149 = .ok (.iload_n 3, 1) := by decide +kernel
theorem d_Law_law_150 : decode b_Law_law 150 = .ok (.iconst 4, 1) := by decide +kernel
theorem d_Law_law_151 : decode b_Law_law 151 = .ok (.iadd, 1) := by decide +kernel
theorem d_Law_law_152 : decode b_Law_law 152 = .ok (.iaload, 1) := by decide +kernel
theorem d_Law_law_153 : decode b_Law_law 153 = .ok (.invokevirtual 21, 3) := by decide +kernel
theorem d_Law_law_156 : decode b_Law_law 156 = .ok (.aload_n 2, 1) := by decide +kernel
theorem d_Law_law_157 : decode b_Law_law 157 = .ok (.aload_n 0, 1) := by decide +kernel
theorem d_Law_law_158 : decode b_Law_law 158 = .ok (.iload_n 3, 1) := by decide +kernel
theorem d_Law_law_159 : decode b_Law_law 159 = .ok (.iconst 1, 1) := by decide +kernel
theorem d_Law_law_160 : decode b_Law_law 160 = .ok (.iadd, 1) := by decide +kernel
theorem d_Law_law_161 : decode b_Law_law 161 = .ok (.iaload, 1) := by decide +kernel
theorem d_Law_law_162 : decode b_Law_law 162 = .ok (.aload_n 0, 1) := by decide +kernel
theorem d_Law_law_163 : decode b_Law_law 163 = .ok (.iload_n 3, 1) := by decide +kernel
theorem d_Law_law_164 : decode b_Law_law 164 = .ok (.iconst 2, 1) := by decide +kernel
theorem d_Law_law_165 : decode b_Law_law 165 = .ok (.iadd, 1) := by decide +kernel
theorem d_Law_law_166 : decode b_Law_law 166 = .ok (.iaload, 1) := by decide +kernel
theorem d_Law_law_167 : decode b_Law_law 167 = .ok (.aload_n 0, 1) := by decide +kernel
theorem d_Law_law_168 : decode b_Law_law 168 = .ok (.iload_n 3, 1) := by decide +kernel
theorem d_Law_law_169 : decode b_Law_law 169 = .ok (.iconst 3, 1) := by decide +kernel
theorem d_Law_law_170 : decode b_Law_law 170 = .ok (.iadd, 1) := by decide +kernel
theorem d_Law_law_171 : decode b_Law_law 171 = .ok (.iaload, 1) := by decide +kernel
theorem d_Law_law_172 : decode b_Law_law 172 = .ok (.ifCond .eq 7, 3) := by decide +kernel
theorem d_Law_law_175 : decode b_Law_law 175 = .ok (.iconst 1, 1) := by decide +kernel
theorem d_Law_law_176 : decode b_Law_law 176 = .ok (.goto 4, 3) := by decide +kernel
theorem d_Law_law_179 : decode b_Law_law 179 = .ok (.iconst 0, 1) := by decide +kernel
theorem d_Law_law_180 : decode b_Law_law 180 = .ok (.aload_n 0, 1) := by decide +kernel
theorem d_Law_law_181 : decode b_Law_law 181 = .ok (.iload_n 3, 1) := by decide +kernel
theorem d_Law_law_182 : decode b_Law_law 182 = .ok (.iconst 4, 1) := by decide +kernel
theorem d_Law_law_183 : decode b_Law_law 183 = .ok (.iadd, 1) := by decide +kernel
theorem d_Law_law_184 : decode b_Law_law 184 = .ok (.iaload, 1) := by decide +kernel
theorem d_Law_law_185 : decode b_Law_law 185 = .ok (.invokevirtual 25, 3) := by decide +kernel
theorem d_Law_law_188 : decode b_Law_law 188 = .ok (.if_icmp .eq 443, 3) := by decide +kernel
theorem d_Law_law_191 : decode b_Law_law 191 = .ok (.iconst 0, 1) := by decide +kernel
theorem d_Law_law_192 : decode b_Law_law 192 = .ok (.ireturn, 1) := by decide +kernel
theorem d_Law_law_193 : decode b_Law_law 193 = .ok (.aload_n 1, 1) := by decide +kernel
theorem d_Law_law_194 : decode b_Law_law 194 = .ok (.aload_n 0, 1) := by decide +kernel
theorem d_Law_law_195 : decode b_Law_law 195 = .ok (.iload_n 3, 1) := by decide +kernel
theorem d_Law_law_196 : decode b_Law_law 196 = .ok (.iconst 1, 1) := by decide +kernel
theorem d_Law_law_197 : decode b_Law_law 197 = .ok (.iadd, 1) := by decide +kernel
theorem d_Law_law_198 : decode b_Law_law 198 = .ok (.iaload, 1) := by decide +kernel
theorem d_Law_law_199 : decode b_Law_law 199 = .ok (.aload_n 0, 1) := by decide +kernel
theorem d_Law_law_200 : decode b_Law_law 200 = .ok (.iload_n 3, 1) := by decide +kernel
theorem d_Law_law_201 : decode b_Law_law 201 = .ok (.iconst 2, 1) := by decide +kernel
theorem d_Law_law_202 : decode b_Law_law 202 = .ok (.iadd, 1) := by decide +kernel
theorem d_Law_law_203 : decode b_Law_law 203 = .ok (.iaload, 1) := by decide +kernel
theorem d_Law_law_204 : decode b_Law_law 204 = .ok (.invokevirtual 26, 3) := by decide +kernel
theorem d_Law_law_207 : decode b_Law_law 207 = .ok (.aload_n 2, 1) := by decide +kernel
theorem d_Law_law_208 : decode b_Law_law 208 = .ok (.aload_n 0, 1) := by decide +kernel
theorem d_Law_law_209 : decode b_Law_law 209 = .ok (.iload_n 3, 1) := by decide +kernel
theorem d_Law_law_210 : decode b_Law_law 210 = .ok (.iconst 1, 1) := by decide +kernel
theorem d_Law_law_211 : decode b_Law_law 211 = .ok (.iadd, 1) := by decide +kernel
theorem d_Law_law_212 : decode b_Law_law 212 = .ok (.iaload, 1) := by decide +kernel
theorem d_Law_law_213 : decode b_Law_law 213 = .ok (.aload_n 0, 1) := by decide +kernel
theorem d_Law_law_214 : decode b_Law_law 214 = .ok (.iload_n 3, 1) := by decide +kernel
theorem d_Law_law_215 : decode b_Law_law 215 = .ok (.iconst 2, 1) := by decide +kernel
theorem d_Law_law_216 : decode b_Law_law 216 = .ok (.iadd, 1) := by decide +kernel
theorem d_Law_law_217 : decode b_Law_law 217 = .ok (.iaload, 1) := by decide +kernel
theorem d_Law_law_218 : decode b_Law_law 218 = .ok (.invokevirtual 30, 3) := by decide +kernel
theorem d_Law_law_221 : decode b_Law_law 221 = .ok (.if_icmp .eq 410, 3) := by decide +kernel
theorem d_Law_law_224 : decode b_Law_law 224 = .ok (.iconst 0, 1) := by decide +kernel
theorem d_Law_law_225 : decode b_Law_law 225 = .ok (.ireturn, 1) := by decide +kernel
theorem d_Law_law_226 : decode b_Law_law 226 = .ok (.aload_n 1, 1) := by decide +kernel
theorem d_Law_law_227 : decode b_Law_law 227 = .ok (.aload_n 0, 1) := by decide +kernel
theorem d_Law_law_228 : decode b_Law_law 228 = .ok (.iload_n 3, 1) := by decide +kernel
theorem d_Law_law_229 : decode b_Law_law 229 = .ok (.iconst 1, 1) := by decide +kernel
theorem d_Law_law_230 : decode b_Law_law 230 = .ok (.iadd, 1) := by decide +kernel
theorem d_Law_law_231 : decode b_Law_law 231 = .ok (.iaload, 1) := by decide +kernel
theorem d_Law_law_232 : decode b_Law_law 232 = .ok (.invokevirtual 31, 3) := by decide +kernel
theorem d_Law_law_235 : decode b_Law_law 235 = .ok (.aload_n 2, 1) := by decide +kernel
theorem d_Law_law_236 : decode b_Law_law 236 = .ok (.aload_n 0, 1) := by decide +kernel
theorem d_Law_law_237 : decode b_Law_law 237 = .ok (.iload_n 3, 1) := by decide +kernel
theorem d_Law_law_238 : decode b_Law_law 238 = .ok (.iconst 1, 1) := by decide +kernel
theorem d_Law_law_239 : decode b_Law_law 239 = .ok (.iadd, 1) := by decide +kernel
theorem d_Law_law_240 : decode b_Law_law 240 = .ok (.iaload, 1) := by decide +kernel
theorem d_Law_law_241 : decode b_Law_law 241 = .ok (.invokevirtual 35, 3) := by decide +kernel
theorem d_Law_law_244 : decode b_Law_law 244 = .ok (.if_icmp .eq 387, 3) := by decide +kernel
theorem d_Law_law_247 : decode b_Law_law 247 = .ok (.iconst 0, 1) := by decide +kernel
theorem d_Law_law_248 : decode b_Law_law 248 = .ok (.ireturn, 1) := by decide +kernel
theorem d_Law_law_249 : decode b_Law_law 249 = .ok (.aload_n 1, 1) := by decide +kernel
theorem d_Law_law_250 : decode b_Law_law 250 = .ok (.aload_n 0, 1) := by decide +kernel
theorem d_Law_law_251 : decode b_Law_law 251 = .ok (.iload_n 3, 1) := by decide +kernel
theorem d_Law_law_252 : decode b_Law_law 252 = .ok (.iconst 1, 1) := by decide +kernel
theorem d_Law_law_253 : decode b_Law_law 253 = .ok (.iadd, 1) := by decide +kernel
theorem d_Law_law_254 : decode b_Law_law 254 = .ok (.iaload, 1) := by decide +kernel
theorem d_Law_law_255 : decode b_Law_law 255 = .ok (.invokevirtual 36, 3) := by decide +kernel
theorem d_Law_law_258 : decode b_Law_law 258 = .ok (.aload_n 2, 1) := by decide +kernel
theorem d_Law_law_259 : decode b_Law_law 259 = .ok (.aload_n 0, 1) := by decide +kernel
theorem d_Law_law_260 : decode b_Law_law 260 = .ok (.iload_n 3, 1) := by decide +kernel
theorem d_Law_law_261 : decode b_Law_law 261 = .ok (.iconst 1, 1) := by decide +kernel
theorem d_Law_law_262 : decode b_Law_law 262 = .ok (.iadd, 1) := by decide +kernel
theorem d_Law_law_263 : decode b_Law_law 263 = .ok (.iaload, 1) := by decide +kernel
theorem d_Law_law_264 : decode b_Law_law 264 = .ok (.invokevirtual 40, 3) := by decide +kernel
theorem d_Law_law_267 : decode b_Law_law 267 = .ok (.if_icmp .eq 364, 3) := by decide +kernel
theorem d_Law_law_270 : decode b_Law_law 270 = .ok (.iconst 0, 1) := by decide +kernel
theorem d_Law_law_271 : decode b_Law_law 271 = .ok (.ireturn, 1) := by decide +kernel
theorem d_Law_law_272 : decode b_Law_law 272 = .ok (.aload_n 1, 1) := by decide +kernel
theorem d_Law_law_273 : decode b_Law_law 273 = .ok (.aload_n 0, 1) := by decide +kernel
theorem d_Law_law_274 : decode b_Law_law 274 = .ok (.iload_n 3, 1) := by decide +kernel
theorem d_Law_law_275 : decode b_Law_law 275 = .ok (.iconst 1, 1) := by decide +kernel
theorem d_Law_law_276 : decode b_Law_law 276 = .ok (.iadd, 1) := by decide +kernel
theorem d_Law_law_277 : decode b_Law_law 277 = .ok (.iaload, 1) := by decide +kernel
theorem d_Law_law_278 : decode b_Law_law 278 = .ok (.invokevirtual 41, 3) := by decide +kernel
theorem d_Law_law_281 : decode b_Law_law 281 = .ok (.aload_n 2, 1) := by decide +kernel
theorem d_Law_law_282 : decode b_Law_law 282 = .ok (.aload_n 0, 1) := by decide +kernel
theorem d_Law_law_283 : decode b_Law_law 283 = .ok (.iload_n 3, 1) := by decide +kernel
theorem d_Law_law_284 : decode b_Law_law 284 = .ok (.iconst 1, 1) := by decide +kernel
theorem d_Law_law_285 : decode b_Law_law 285 = .ok (.iadd, 1) := by decide +kernel
theorem d_Law_law_286 : decode b_Law_law 286 = .ok (.iaload, 1) := by decide +kernel
theorem d_Law_law_287 : decode b_Law_law 287 = .ok (.invokevirtual 44, 3) := by decide +kernel
theorem d_Law_law_290 : decode b_Law_law 290 = .ok (.if_icmp .eq 341, 3) := by decide +kernel
theorem d_Law_law_293 : decode b_Law_law 293 = .ok (.iconst 0, 1) := by decide +kernel
theorem d_Law_law_294 : decode b_Law_law 294 = .ok (.ireturn, 1) := by decide +kernel
theorem d_Law_law_295 : decode b_Law_law 295 = .ok (.aload_n 1, 1) := by decide +kernel
theorem d_Law_law_296 : decode b_Law_law 296 = .ok (.aload_n 0, 1) := by decide +kernel
theorem d_Law_law_297 : decode b_Law_law 297 = .ok (.iload_n 3, 1) := by decide +kernel
theorem d_Law_law_298 : decode b_Law_law 298 = .ok (.iconst 1, 1) := by decide +kernel
theorem d_Law_law_299 : decode b_Law_law 299 = .ok (.iadd, 1) := by decide +kernel
theorem d_Law_law_300 : decode b_Law_law 300 = .ok (.iaload, 1) := by decide +kernel
theorem d_Law_law_301 : decode b_Law_law 301 = .ok (.invokevirtual 45, 3) := by decide +kernel
theorem d_Law_law_304 : decode b_Law_law 304 = .ok (.aload_n 2, 1) := by decide +kernel
theorem d_Law_law_305 : decode b_Law_law 305 = .ok (.aload_n 0, 1) := by decide +kernel
theorem d_Law_law_306 : decode b_Law_law 306 = .ok (.iload_n 3, 1) := by decide +kernel
theorem d_Law_law_307 : decode b_Law_law 307 = .ok (.iconst 1, 1) := by decide +kernel
theorem d_Law_law_308 : decode b_Law_law 308 = .ok (.iadd, 1) := by decide +kernel
theorem d_Law_law_309 : decode b_Law_law 309 = .ok (.iaload, 1) := by decide +kernel
theorem d_Law_law_310 : decode b_Law_law 310 = .ok (.invokevirtual 48, 3) := by decide +kernel
theorem d_Law_law_313 : decode b_Law_law 313 = .ok (.if_icmp .eq 318, 3) := by decide +kernel
theorem d_Law_law_316 : decode b_Law_law 316 = .ok (.iconst 0, 1) := by decide +kernel
theorem d_Law_law_317 : decode b_Law_law 317 = .ok (.ireturn, 1) := by decide +kernel
theorem d_Law_law_318 : decode b_Law_law 318 = .ok (.aload_n 1, 1) := by decide +kernel
theorem d_Law_law_319 : decode b_Law_law 319 = .ok (.invokevirtual 49, 3) := by decide +kernel
theorem d_Law_law_322 : decode b_Law_law 322 = .ok (.aload_n 2, 1) := by decide +kernel
theorem d_Law_law_323 : decode b_Law_law 323 = .ok (.invokevirtual 53, 3) := by decide +kernel
theorem d_Law_law_326 : decode b_Law_law 326 = .ok (.if_icmp .eq 305, 3) := by decide +kernel
theorem d_Law_law_329 : decode b_Law_law 329 = .ok (.iconst 0, 1) := by decide +kernel
theorem d_Law_law_330 : decode b_Law_law 330 = .ok (.ireturn, 1) := by decide +kernel
theorem d_Law_law_331 : decode b_Law_law 331 = .ok (.aload_n 1, 1) := by decide +kernel
theorem d_Law_law_332 : decode b_Law_law 332 = .ok (.aload_n 0, 1) := by decide +kernel
theorem d_Law_law_333 : decode b_Law_law 333 = .ok (.iload_n 3, 1) := by decide +kernel
theorem d_Law_law_334 : decode b_Law_law 334 = .ok (.iconst 1, 1) := by decide +kernel
theorem d_Law_law_335 : decode b_Law_law 335 = .ok (.iadd, 1) := by decide +kernel
theorem d_Law_law_336 : decode b_Law_law 336 = .ok (.iaload, 1) := by decide +kernel
theorem d_Law_law_337 : decode b_Law_law 337 = .ok (.invokevirtual 54, 3) := by decide +kernel
theorem d_Law_law_340 : decode b_Law_law 340 = .ok (.aload_n 2, 1) := by decide +kernel
theorem d_Law_law_341 : decode b_Law_law 341 = .ok (.aload_n 0, 1) := by decide +kernel
theorem d_Law_law_342 : decode b_Law_law 342 = .ok (.iload_n 3, 1) := by decide +kernel
theorem d_Law_law_343 : decode b_Law_law 343 = .ok (.iconst 1, 1) := by decide +kernel
theorem d_Law_law_344 : decode b_Law_law 344 = .ok (.iadd, 1) := by decide +kernel
theorem d_Law_law_345 : decode b_Law_law 345 = .ok (.iaload, 1) := by decide +kernel
theorem d_Law_law_346 : decode b_Law_law 346 = .ok (.invokevirtual 57, 3) := by decide +kernel
theorem d_Law_law_349 : decode b_Law_law 349 = .ok (.if_icmp .eq 282, 3) := by decide +kernel
theorem d_Law_law_352 : decode b_Law_law 352 = .ok (.iconst 0, 1) := by decide +kernel
theorem d_Law_law_353 : decode b_Law_law 353 = .ok (.ireturn, 1) := by decide +kernel
theorem d_Law_law_354 : decode b_Law_law 354 = .ok (.aload_n 1, 1) := by decide +kernel
theorem d_Law_law_355 : decode b_Law_law 355 = .ok (.invokevirtual 58, 3) := by decide +kernel
theorem d_Law_law_358 : decode b_Law_law 358 = .ok (.aload_n 2, 1) := by decide +kernel
theorem d_Law_law_359 : decode b_Law_law 359 = .ok (.invokevirtual 61, 3) := by decide +kernel
theorem d_Law_law_362 : decode b_Law_law 362 = .ok (.if_icmp .eq 269, 3) := by decide +kernel
theorem d_Law_law_365 : decode b_Law_law 365 = .ok (.iconst 0, 1) := by decide +kernel
theorem d_Law_law_366 : decode b_Law_law 366 = .ok (.ireturn, 1) := by decide +kernel
theorem d_Law_law_367 : decode b_Law_law 367 = .ok (.aload_n 1, 1) := by decide +kernel
theorem d_Law_law_368 : decode b_Law_law 368 = .ok (.aload_n 0, 1) := by decide +kernel
theorem d_Law_law_369 : decode b_Law_law 369 = .ok (.iload_n 3, 1) := by decide +kernel
theorem d_Law_law_370 : decode b_Law_law 370 = .ok (.iconst 1, 1) := by decide +kernel
theorem d_Law_law_371 : decode b_Law_law 371 = .ok (.iadd, 1) := by decide +kernel
theorem d_Law_law_372 : decode b_Law_law 372 = .ok (.iaload, 1) := by decide +kernel
theorem d_Law_law_373 : decode b_Law_law 373 = .ok (.aload_n 0, 1) := by decide +kernel
theorem d_Law_law_374 : decode b_Law_law 374 = .ok (.iload_n 3, 1) := by decide +kernel
theorem d_Law_law_375 : decode b_Law_law 375 = .ok (.iconst 2, 1) := by decide +kernel
theorem d_Law_law_376 : decode b_Law_law 376 = .ok (.iadd, 1) := by decide +kernel
theorem d_Law_law_377 : decode b_Law_law 377 = .ok (.iaload, 1) := by decide +kernel
theorem d_Law_law_378 : decode b_Law_law 378 = .ok (.invokevirtual 62, 3) := by decide +kernel
theorem d_Law_law_381 : decode b_Law_law 381 = .ok (.aload_n 2, 1) := by decide +kernel
theorem d_Law_law_382 : decode b_Law_law 382 = .ok (.aload_n 0, 1) := by decide +kernel
theorem d_Law_law_383 : decode b_Law_law 383 = .ok (.iload_n 3, 1) := by decide +kernel
theorem d_Law_law_384 : decode b_Law_law 384 = .ok (.iconst 1, 1) := by decide +kernel
theorem d_Law_law_385 : decode b_Law_law 385 = .ok (.iadd, 1) := by decide +kernel
theorem d_Law_law_386 : decode b_Law_law 386 = .ok (.iaload, 1) := by decide +kernel
theorem d_Law_law_387 : decode b_Law_law 387 = .ok (.aload_n 0, 1) := by decide +kernel
theorem d_Law_law_388 : decode b_Law_law 388 = .ok (.iload_n 3, 1) := by decide +kernel
theorem d_Law_law_389 : decode b_Law_law 389 = .ok (.iconst 2, 1) := by decide +kernel
theorem d_Law_law_390 : decode b_Law_law 390 = .ok (.iadd, 1) := by decide +kernel
theorem d_Law_law_391 : decode b_Law_law 391 = .ok (.iaload, 1) := by decide +kernel
theorem d_Law_law_392 : decode b_Law_law 392 = .ok (.invokevirtual 65, 3) := by decide +kernel
theorem d_Law_law_395 : decode b_Law_law 395 = .ok (.if_icmp .eq 236, 3) := by decide +kernel
theorem d_Law_law_398 : decode b_Law_law 398 = .ok (.iconst 0, 1) := by decide +kernel
theorem d_Law_law_399 : decode b_Law_law 399 = .ok (.ireturn, 1) := by decide +kernel
theorem d_Law_law_400 : decode b_Law_law 400 = .ok (.aload_n 1, 1) := by decide +kernel
theorem d_Law_law_401 : decode b_Law_law 401 = .ok (.aload_n 0, 1) := by decide +kernel
theorem d_Law_law_402 : decode b_Law_law 402 = .ok (.iload_n 3, 1) := by decide +kernel
theorem d_Law_law_403 : decode b_Law_law 403 = .ok (.iconst 1, 1) := by decide +kernel
theorem d_Law_law_404 : decode b_Law_law 404 = .ok (.iadd, 1) := by decide +kernel
theorem d_Law_law_405 : decode b_Law_law 405 = .ok (.iaload, 1) := by decide +kernel
theorem d_Law_law_406 : decode b_Law_law 406 = .ok (.aload_n 0, 1) := by decide +kernel
theorem d_Law_law_407 : decode b_Law_law 407 = .ok (.iload_n 3, 1) := by decide +kernel
theorem d_Law_law_408 : decode b_Law_law 408 = .ok (.iconst 2, 1) := by decide +kernel
theorem d_Law_law_409 : decode b_Law_law 409 = .ok (.iadd, 1) := by decide +kernel
theorem d_Law_law_410 : decode b_Law_law 410 = .ok (.iaload, 1) := by decide +kernel
theorem d_Law_law_411 : decode b_Law_law 411 = .ok (.invokevirtual 66, 3) := by decide +kernel
theorem d_Law_law_414 : decode b_Law_law 414 = .ok (.aload_n 2, 1) := by decide +kernel
theorem d_Law_law_415 : decode b_Law_law 415 = .ok (.aload_n 0, 1) := by decide +kernel
theorem d_Law_law_416 : decode b_Law_law 416 = .ok (.iload_n 3, 1) := by decide +kernel
theorem d_Law_law_417 : decode b_Law_law 417 = .ok (.iconst 1, 1) := by decide +kernel
theorem d_Law_law_418 : decode b_Law_law 418 = .ok (.iadd, 1) := by decide +kernel
theorem d_Law_law_419 : decode b_Law_law 419 = .ok (.iaload, 1) := by decide +kernel
theorem d_Law_law_420 : decode b_Law_law 420 = .ok (.aload_n 0, 1) := by decide +kernel
theorem d_Law_law_421 : decode b_Law_law 421 = .ok (.iload_n 3, 1) := by decide +kernel
theorem d_Law_law_422 : decode b_Law_law 422 = .ok (.iconst 2, 1) := by decide +kernel
theorem d_Law_law_423 : decode b_Law_law 423 = .ok (.iadd, 1) := by decide +kernel
theorem d_Law_law_424 : decode b_Law_law 424 = .ok (.iaload, 1) := by decide +kernel
theorem d_Law_law_425 : decode b_Law_law 425 = .ok (.invokevirtual 69, 3) := by decide +kernel
theorem d_Law_law_428 : decode b_Law_law 428 = .ok (.if_icmp .eq 203, 3) := by decide +kernel
theorem d_Law_law_431 : decode b_Law_law 431 = .ok (.iconst 0, 1) := by decide +kernel
theorem d_Law_law_432 : decode b_Law_law 432 = .ok (.ireturn, 1) := by decide +kernel
theorem d_Law_law_433 : decode b_Law_law 433 = .ok (.aload_n 1, 1) := by decide +kernel
theorem d_Law_law_434 : decode b_Law_law 434 = .ok (.aload_n 0, 1) := by decide +kernel
theorem d_Law_law_435 : decode b_Law_law 435 = .ok (.iload_n 3, 1) := by decide +kernel
theorem d_Law_law_436 : decode b_Law_law 436 = .ok (.iconst 1, 1) := by decide +kernel
theorem d_Law_law_437 : decode b_Law_law 437 = .ok (.iadd, 1) := by decide +kernel
theorem d_Law_law_438 : decode b_Law_law 438 = .ok (.iaload, 1) := by decide +kernel
theorem d_Law_law_439 : decode b_Law_law 439 = .ok (.aload_n 0, 1) := by decide +kernel
theorem d_Law_law_440 : decode b_Law_law 440 = .ok (.iload_n 3, 1) := by decide +kernel
theorem d_Law_law_441 : decode b_Law_law 441 = .ok (.iconst 2, 1) := by decide +kernel
theorem d_Law_law_442 : decode b_Law_law 442 = .ok (.iadd, 1) := by decide +kernel
theorem d_Law_law_443 : decode b_Law_law 443 = .ok (.iaload, 1) := by decide +kernel
theorem d_Law_law_444 : decode b_Law_law 444 = .ok (.invokevirtual 70, 3) := by decide +kernel
theorem d_Law_law_447 : decode b_Law_law 447 = .ok (.aload_n 2, 1) := by decide +kernel
theorem d_Law_law_448 : decode b_Law_law 448 = .ok (.aload_n 0, 1) := by decide +kernel
theorem d_Law_law_449 : decode b_Law_law 449 = .ok (.iload_n 3, 1) := by decide +kernel
theorem d_Law_law_450 : decode b_Law_law 450 = .ok (.iconst 1, 1) := by decide +kernel
theorem d_Law_law_451 : decode b_Law_law 451 = .ok (.iadd, 1) := by decide +kernel
theorem d_Law_law_452 : decode b_Law_law 452 = .ok (.iaload, 1) := by decide +kernel
theorem d_Law_law_453 : decode b_Law_law 453 = .ok (.aload_n 0, 1) := by decide +kernel
theorem d_Law_law_454 : decode b_Law_law 454 = .ok (.iload_n 3, 1) := by decide +kernel
theorem d_Law_law_455 : decode b_Law_law 455 = .ok (.iconst 2, 1) := by decide +kernel
theorem d_Law_law_456 : decode b_Law_law 456 = .ok (.iadd, 1) := by decide +kernel
theorem d_Law_law_457 : decode b_Law_law 457 = .ok (.iaload, 1) := by decide +kernel
theorem d_Law_law_458 : decode b_Law_law 458 = .ok (.invokevirtual 73, 3) := by decide +kernel
theorem d_Law_law_461 : decode b_Law_law 461 = .ok (.if_icmp .eq 170, 3) := by decide +kernel
theorem d_Law_law_464 : decode b_Law_law 464 = .ok (.iconst 0, 1) := by decide +kernel
theorem d_Law_law_465 : decode b_Law_law 465 = .ok (.ireturn, 1) := by decide +kernel
theorem d_Law_law_466 : decode b_Law_law 466 = .ok (.aload_n 1, 1) := by decide +kernel
theorem d_Law_law_467 : decode b_Law_law 467 = .ok (.aload_n 0, 1) := by decide +kernel
theorem d_Law_law_468 : decode b_Law_law 468 = .ok (.iload_n 3, 1) := by decide +kernel
theorem d_Law_law_469 : decode b_Law_law 469 = .ok (.iconst 1, 1) := by decide +kernel
theorem d_Law_law_470 : decode b_Law_law 470 = .ok (.iadd, 1) := by decide +kernel
theorem d_Law_law_471 : decode b_Law_law 471 = .ok (.iaload, 1) := by decide +kernel
theorem d_Law_law_472 : decode b_Law_law 472 = .ok (.aload_n 0, 1) := by decide +kernel
theorem d_Law_law_473 : decode b_Law_law 473 = .ok (.iload_n 3, 1) := by decide +kernel
theorem d_Law_law_474 : decode b_Law_law 474 = .ok (.iconst 2, 1) := by decide +kernel
theorem d_Law_law_475 : decode b_Law_law 475 = .ok (.iadd, 1) := by decide +kernel
theorem d_Law_law_476 : decode b_Law_law 476 = .ok (.iaload, 1) := by decide +kernel
theorem d_Law_law_477 : decode b_Law_law 477 = .ok (.invokevirtual 74, 3) := by decide +kernel
theorem d_Law_law_480 : decode b_Law_law 480 = .ok (.aload_n 2, 1) := by decide +kernel
theorem d_Law_law_481 : decode b_Law_law 481 = .ok (.aload_n 0, 1) := by decide +kernel
theorem d_Law_law_482 : decode b_Law_law 482 = .ok (.iload_n 3, 1) := by decide +kernel
theorem d_Law_law_483 : decode b_Law_law 483 = .ok (.iconst 1, 1) := by decide +kernel
theorem d_Law_law_484 : decode b_Law_law 484 = .ok (.iadd, 1) := by decide +kernel
theorem d_Law_law_485 : decode b_Law_law 485 = .ok (.iaload, 1) := by decide +kernel
theorem d_Law_law_486 : decode b_Law_law 486 = .ok (.aload_n 0, 1) := by decide +kernel
theorem d_Law_law_487 : decode b_Law_law 487 = .ok (.iload_n 3, 1) := by decide +kernel
theorem d_Law_law_488 : decode b_Law_law 488 = .ok (.iconst 2, 1) := by decide +kernel
theorem d_Law_law_489 : decode b_Law_law 489 = .ok (.iadd, 1) := by decide +kernel
theorem d_Law_law_490 : decode b_Law_law 490 = .ok (.iaload, 1) := by decide +kernel
theorem d_Law_law_491 : decode b_Law_law 491 = .ok (.invokevirtual 77, 3) := by decide +kernel
theorem d_Law_law_494 : decode b_Law_law 494 = .ok (.if_icmp .eq 137, 3) := by decide +kernel
theorem d_Law_law_497 : decode b_Law_law 497 = .ok (.iconst 0, 1) := by decide +kernel
theorem d_Law_law_498 : decode b_Law_law 498 = .ok (.ireturn, 1) := by decide +kernel
theorem d_Law_law_499 : decode b_Law_law 499 = .ok (.aload_n 1, 1) := by decide +kernel
theorem d_Law_law_500 : decode b_Law_law 500 = .ok (.aload_n 0, 1) := by decide +kernel
theorem d_Law_law_501 : decode b_Law_law 501 = .ok (.iload_n 3, 1) := by decide +kernel
theorem d_Law_law_502 : decode b_Law_law 502 = .ok (.iconst 1, 1) := by decide +kernel
theorem d_Law_law_503 : decode b_Law_law 503 = .ok (.iadd, 1) := by decide +kernel
theorem d_Law_law_504 : decode b_Law_law 504 = .ok (.iaload, 1) := by decide +kernel
theorem d_Law_law_505 : decode b_Law_law 505 = .ok (.aload_n 0, 1) := by decide +kernel
theorem d_Law_law_506 : decode b_Law_law 506 = .ok (.iload_n 3, 1) := by decide +kernel
theorem d_Law_law_507 : decode b_Law_law 507 = .ok (.iconst 2, 1) := by decide +kernel
theorem d_Law_law_508 : decode b_Law_law 508 = .ok (.iadd, 1) := by decide +kernel
theorem d_Law_law_509 : decode b_Law_law 509 = .ok (.iaload, 1) := by decide +kernel
theorem d_Law_law_510 : decode b_Law_law 510 = .ok (.invokevirtual 78, 3) := by decide +kernel
theorem d_Law_law_513 : decode b_Law_law 513 = .ok (.aload_n 2, 1) := by decide +kernel
theorem d_Law_law_514 : decode b_Law_law 514 = .ok (.aload_n 0, 1) := by decide +kernel
theorem d_Law_law_515 : decode b_Law_law 515 = .ok (.iload_n 3, 1) := by decide +kernel
theorem d_Law_law_516 : decode b_Law_law 516 = .ok (.iconst 1, 1) := by decide +kernel
theorem d_Law_law_517 : decode b_Law_law 517 = .ok (.iadd, 1) := by decide +kernel
theorem d_Law_law_518 : decode b_Law_law 518 = .ok (.iaload, 1) := by decide +kernel
theorem d_Law_law_519 : decode b_Law_law 519 = .ok (.aload_n 0, 1) := by decide +kernel
theorem d_Law_law_520 : decode b_Law_law 520 = .ok (.iload_n 3, 1) := by decide +kernel
theorem d_Law_law_521 : decode b_Law_law 521 = .ok (.iconst 2, 1) := by decide +kernel
theorem d_Law_law_522 : decode b_Law_law 522 = .ok (.iadd, 1) := by decide +kernel
theorem d_Law_law_523 : decode b_Law_law 523 = .ok (.iaload, 1) := by decide +kernel
theorem d_Law_law_524 : decode b_Law_law 524 = .ok (.invokevirtual 81, 3) := by decide +kernel
theorem d_Law_law_527 : decode b_Law_law 527 = .ok (.if_icmp .eq 104, 3) := by decide +kernel
theorem d_Law_law_530 : decode b_Law_law 530 = .ok (.iconst 0, 1) := by decide +kernel
theorem d_Law_law_531 : decode b_Law_law 531 = .ok (.ireturn, 1) := by decide +kernel
theorem d_Law_law_532 : decode b_Law_law 532 = .ok (.aload_n 1, 1) := by decide +kernel
theorem d_Law_law_533 : decode b_Law_law 533 = .ok (.aload_n 0, 1) := by decide +kernel
theorem d_Law_law_534 : decode b_Law_law 534 = .ok (.iload_n 3, 1) := by decide +kernel
theorem d_Law_law_535 : decode b_Law_law 535 = .ok (.iconst 1, 1) := by decide +kernel
theorem d_Law_law_536 : decode b_Law_law 536 = .ok (.iadd, 1) := by decide +kernel
theorem d_Law_law_537 : decode b_Law_law 537 = .ok (.iaload, 1) := by decide +kernel
theorem d_Law_law_538 : decode b_Law_law 538 = .ok (.aload_n 0, 1) := by decide +kernel
theorem d_Law_law_539 : decode b_Law_law 539 = .ok (.iload_n 3, 1) := by decide +kernel
theorem d_Law_law_540 : decode b_Law_law 540 = .ok (.iconst 2, 1) := by decide +kernel
theorem d_Law_law_541 : decode b_Law_law 541 = .ok (.iadd, 1) := by decide +kernel
theorem d_Law_law_542 : decode b_Law_law 542 = .ok (.iaload, 1) := by decide +kernel
theorem d_Law_law_543 : decode b_Law_law 543 = .ok (.invokevirtual 82, 3) := by decide +kernel
theorem d_Law_law_546 : decode b_Law_law 546 = .ok (.aload_n 2, 1) := by decide +kernel
theorem d_Law_law_547 : decode b_Law_law 547 = .ok (.aload_n 0, 1) := by decide +kernel
theorem d_Law_law_548 : decode b_Law_law 548 = .ok (.iload_n 3, 1) := by decide +kernel
theorem d_Law_law_549 : decode b_Law_law 549 = .ok (.iconst 1, 1) := by decide +kernel
theorem d_Law_law_550 : decode b_Law_law 550 = .ok (.iadd, 1) := by decide +kernel
theorem d_Law_law_551 : decode b_Law_law 551 = .ok (.iaload, 1) := by decide +kernel
theorem d_Law_law_552 : decode b_Law_law 552 = .ok (.aload_n 0, 1) := by decide +kernel
theorem d_Law_law_553 : decode b_Law_law 553 = .ok (.iload_n 3, 1) := by decide +kernel
theorem d_Law_law_554 : decode b_Law_law 554 = .ok (.iconst 2, 1) := by decide +kernel
theorem d_Law_law_555 : decode b_Law_law 555 = .ok (.iadd, 1) := by decide +kernel
theorem d_Law_law_556 : decode b_Law_law 556 = .ok (.iaload, 1) := by decide +kernel
theorem d_Law_law_557 : decode b_Law_law 557 = .ok (.invokevirtual 85, 3) := by decide +kernel
theorem d_Law_law_560 : decode b_Law_law 560 = .ok (.if_icmp .eq 71, 3) := by decide +kernel
theorem d_Law_law_563 : decode b_Law_law 563 = .ok (.iconst 0, 1) := by decide +kernel
theorem d_Law_law_564 : decode b_Law_law 564 = .ok (.ireturn, 1) := by decide +kernel
theorem d_Law_law_565 : decode b_Law_law 565 = .ok (.aload_n 1, 1) := by decide +kernel
theorem d_Law_law_566 : decode b_Law_law 566 = .ok (.aload_n 0, 1) := by decide +kernel
theorem d_Law_law_567 : decode b_Law_law 567 = .ok (.iload_n 3, 1) := by decide +kernel
theorem d_Law_law_568 : decode b_Law_law 568 = .ok (.iconst 1, 1) := by decide +kernel
theorem d_Law_law_569 : decode b_Law_law 569 = .ok (.iadd, 1) := by decide +kernel
theorem d_Law_law_570 : decode b_Law_law 570 = .ok (.iaload, 1) := by decide +kernel
theorem d_Law_law_571 : decode b_Law_law 571 = .ok (.aload_n 0, 1) := by decide +kernel
theorem d_Law_law_572 : decode b_Law_law 572 = .ok (.iload_n 3, 1) := by decide +kernel
theorem d_Law_law_573 : decode b_Law_law 573 = .ok (.iconst 2, 1) := by decide +kernel
theorem d_Law_law_574 : decode b_Law_law 574 = .ok (.iadd, 1) := by decide +kernel
theorem d_Law_law_575 : decode b_Law_law 575 = .ok (.iaload, 1) := by decide +kernel
theorem d_Law_law_576 : decode b_Law_law 576 = .ok (.invokevirtual 86, 3) := by decide +kernel
theorem d_Law_law_579 : decode b_Law_law 579 = .ok (.aload_n 2, 1) := by decide +kernel
theorem d_Law_law_580 : decode b_Law_law 580 = .ok (.aload_n 0, 1) := by decide +kernel
theorem d_Law_law_581 : decode b_Law_law 581 = .ok (.iload_n 3, 1) := by decide +kernel
theorem d_Law_law_582 : decode b_Law_law 582 = .ok (.iconst 1, 1) := by decide +kernel
theorem d_Law_law_583 : decode b_Law_law 583 = .ok (.iadd, 1) := by decide +kernel
theorem d_Law_law_584 : decode b_Law_law 584 = .ok (.iaload, 1) := by decide +kernel
theorem d_Law_law_585 : decode b_Law_law 585 = .ok (.aload_n 0, 1) := by decide +kernel
theorem d_Law_law_586 : decode b_Law_law 586 = .ok (.iload_n 3, 1) := by decide +kernel
theorem d_Law_law_587 : decode b_Law_law 587 = .ok (.iconst 2, 1) := by decide +kernel
theorem d_Law_law_588 : decode b_Law_law 588 = .ok (.iadd, 1) := by decide +kernel
theorem d_Law_law_589 : decode b_Law_law 589 = .ok (.iaload, 1) := by decide +kernel
theorem d_Law_law_590 : decode b_Law_law 590 = .ok (.invokevirtual 89, 3) := by decide +kernel
theorem d_Law_law_593 : decode b_Law_law 593 = .ok (.if_icmp .eq 38, 3) := by decide +kernel
theorem d_Law_law_596 : decode b_Law_law 596 = .ok (.iconst 0, 1) := by decide +kernel
theorem d_Law_law_597 : decode b_Law_law 597 = .ok (.ireturn, 1) := by decide +kernel
theorem d_Law_law_598 : decode b_Law_law 598 = .ok (.aload_n 1, 1) := by decide +kernel
theorem d_Law_law_599 : decode b_Law_law 599 = .ok (.aload_n 0, 1) := by decide +kernel
theorem d_Law_law_600 : decode b_Law_law 600 = .ok (.iload_n 3, 1) := by decide +kernel
theorem d_Law_law_601 : decode b_Law_law 601 = .ok (.iconst 1, 1) := by decide +kernel
theorem d_Law_law_602 : decode b_Law_law 602 = .ok (.iadd, 1) := by decide +kernel
theorem d_Law_law_603 : decode b_Law_law 603 = .ok (.iaload, 1) := by decide +kernel
theorem d_Law_law_604 : decode b_Law_law 604 = .ok (.aload_n 0, 1) := by decide +kernel
theorem d_Law_law_605 : decode b_Law_law 605 = .ok (.iload_n 3, 1) := by decide +kernel
theorem d_Law_law_606 : decode b_Law_law 606 = .ok (.iconst 2, 1) := by decide +kernel
theorem d_Law_law_607 : decode b_Law_law 607 = .ok (.iadd, 1) := by decide +kernel
theorem d_Law_law_608 : decode b_Law_law 608 = .ok (.iaload, 1) := by decide +kernel
theorem d_Law_law_609 : decode b_Law_law 609 = .ok (.invokevirtual 90, 3) := by decide +kernel
theorem d_Law_law_612 : decode b_Law_law 612 = .ok (.aload_n 2, 1) := by decide +kernel
theorem d_Law_law_613 : decode b_Law_law 613 = .ok (.aload_n 0, 1) := by decide +kernel
theorem d_Law_law_614 : decode b_Law_law 614 = .ok (.iload_n 3, 1) := by decide +kernel
theorem d_Law_law_615 : decode b_Law_law 615 = .ok (.iconst 1, 1) := by decide +kernel
theorem d_Law_law_616 : decode b_Law_law 616 = .ok (.iadd, 1) := by decide +kernel
theorem d_Law_law_617 : decode b_Law_law 617 = .ok (.iaload, 1) := by decide +kernel
theorem d_Law_law_618 : decode b_Law_law 618 = .ok (.aload_n 0, 1) := by decide +kernel
theorem d_Law_law_619 : decode b_Law_law 619 = .ok (.iload_n 3, 1) := by decide +kernel
theorem d_Law_law_620 : decode b_Law_law 620 = .ok (.iconst 2, 1) := by decide +kernel
theorem d_Law_law_621 : decode b_Law_law 621 = .ok (.iadd, 1) := by decide +kernel
theorem d_Law_law_622 : decode b_Law_law 622 = .ok (.iaload, 1) := by decide +kernel
theorem d_Law_law_623 : decode b_Law_law 623 = .ok (.invokevirtual 93, 3) := by decide +kernel
theorem d_Law_law_626 : decode b_Law_law 626 = .ok (.if_icmp .eq 5, 3) := by decide +kernel
theorem d_Law_law_629 : decode b_Law_law 629 = .ok (.iconst 0, 1) := by decide +kernel
theorem d_Law_law_630 : decode b_Law_law 630 = .ok (.ireturn, 1) := by decide +kernel
theorem d_Law_law_631 : decode b_Law_law 631 = .ok (.iinc 3 5, 3) := by decide +kernel
theorem d_Law_law_634 : decode b_Law_law 634 = .ok (.goto (-606), 3) := by decide +kernel
theorem d_Law_law_637 : decode b_Law_law 637 = .ok (.iconst 1, 1) := by decide +kernel
theorem d_Law_law_638 : decode b_Law_law 638 = .ok (.ireturn, 1) := by decide +kernel
end
section
def X_Net_init : me_X := (b_Net_init, fun _ => none, fun i => match i with | 11 => some (1, 0, 1064, 2) | _ => none, fun _ => none, fun i => match i with | 9 => some 102 | _ => none, fun _ => none, fun _ _ _ _ _ => False, none, 3, 0)
def X_En_init : me_X := (b_En_init, fun _ => none, fun _ => none, fun _ => none, fun _ => none, fun _ => none, fun _ _ _ _ _ => False, none, 3, 0)
def X_Sto_init : me_X := (b_Sto_init, fun _ => none, fun i => match i with | 9 => some (4, 0, 1256, 2) | 15 => some (4, 1, 1257, 2) | _ => none, fun _ => none, fun i => match i with | 70000 => some 100 | _ => none, fun _ => none, fun _ _ _ _ _ => False, none, 3, 0)
def X_Rp_init : me_X := (b_Rp_init, fun i => match i with | 27 => some (2, 4, 1132, 2) | _ => none, fun i => match i with | 9 => some (2, 0, 1128, 0) | 15 => some (2, 1, 1129, 0) | 18 => some (2, 2, 1130, 0) | 21 => some (2, 3, 1131, 2) | 27 => some (2, 4, 1132, 2) | 34 => some (2, 5, 1133, 2) | 43 => some (2, 6, 1134, 2) | _ => none, fun i => match i with | 25 => some (3, 6) | 38 => some (4, 4) | _ => none, fun i => match i with | 25 => some 104 | 32 => some 105 | _ => none, fun _ => none, fun pc => match pc with | 60 => me_cV eL X_En_init 1 1 3 | 92 => me_cV eL X_Sto_init 2 2 4 | _ => fun _ _ _ _ => False, none, 3, 0)
def X_LM_init : me_X := (b_LM_init, fun i => match i with | 7 => some (0, 0, 1000, 0) | 19 => some (0, 2, 1002, 2) | 25 => some (0, 3, 1003, 2) | _ => none, fun i => match i with | 7 => some (0, 0, 1000, 0) | 13 => some (0, 1, 1001, 0) | 19 => some (0, 2, 1002, 2) | 25 => some (0, 3, 1003, 2) | _ => none, fun i => match i with | 16 => some (1, 3) | 23 => some (2, 8) | _ => none, fun i => match i with | 23 => some 103 | _ => none, fun _ => none, fun pc => match pc with | 33 => me_cV eL X_Net_init 1 1 1 | 78 => me_cV eL X_Rp_init 4 5 2 | _ => fun _ _ _ _ => False, none, 1, 0)
def X_LM_isReplica : me_X := (b_LM_isReplica, fun i => match i with | 7 => some (0, 0, 1000, 0) | _ => none, fun _ => none, fun _ => none, fun _ => none, fun _ => none, fun _ _ _ _ _ => False, none, 0, 2)
def X_LM_workingReplica : me_X := (b_LM_workingReplica, fun i => match i with | 25 => some (0, 3, 1003, 2) | 86 => some (2, 7, 1135, 1) | _ => none, fun _ => none, fun _ => none, fun _ => none, fun _ => none, fun pc => match pc with | 2 => me_cV eL X_LM_isReplica 2 2 0 | _ => fun _ _ _ _ => False, none, 0, 3)
def X_LM_isKey : me_X := (b_LM_isKey, fun _ => none, fun _ => none, fun _ => none, fun _ => none, fun _ => none, fun _ _ _ _ _ => False, none, 0, 2)
def X_Rp_freeInstance : me_X := (b_Rp_freeInstance, fun i => match i with | 9 => some (2, 0, 1128, 0) | 27 => some (2, 4, 1132, 2) | 47 => some (3, 0, 1192, 0) | 50 => some (3, 2, 1194, 0) | _ => none, fun _ => none, fun _ => none, fun _ => none, fun _ => none, fun _ _ _ _ _ => False, none, 0, 1)
def X_Cmd_init : me_X := (b_Cmd_init, fun _ => none, fun i => match i with | 9 => some (6, 0, 1384, 0) | 15 => some (6, 1, 1385, 0) | 18 => some (6, 2, 1386, 0) | _ => none, fun _ => none, fun _ => none, fun _ => none, fun _ _ _ _ _ => False, none, 3, 0)
def X_Or_init : me_X := (b_Or_init, fun _ => none, fun i => match i with | 7 => some (7, 0, 1448, 2) | 13 => some (7, 1, 1449, 0) | 17 => some (7, 2, 1450, 0) | _ => none, fun _ => none, fun _ => none, fun _ => none, fun _ _ _ _ _ => False, none, 1, 0)
def X_Cmd_interferesWith : me_X := (b_Cmd_interferesWith, fun i => match i with | 9 => some (6, 0, 1384, 0) | 15 => some (6, 1, 1385, 0) | _ => none, fun _ => none, fun _ => none, fun _ => none, fun _ => none, fun _ _ _ _ _ => False, none, 0, 2)
def X_Rp_fitted : me_X := (b_Rp_fitted, fun i => match i with | 27 => some (2, 4, 1132, 2) | 102 => some (3, 1, 1193, 2) | 154 => some (7, 0, 1448, 2) | 225 => some (7, 1, 1449, 0) | 228 => some (7, 2, 1450, 0) | _ => none, fun _ => none, fun i => match i with | 53 => some (7, 3) | _ => none, fun _ => none, fun _ => none, fun pc => match pc with | 56 => me_cV eL X_Cmd_interferesWith 2 2 6 | 70 => me_cMax | 100 => me_cV eL X_Or_init 4 4 7 | _ => fun _ _ _ _ => False, none, 0, 3)
def X_En_become : me_X := (b_En_become, fun _ => none, fun i => match i with | 9 => some (3, 0, 1192, 0) | 15 => some (3, 1, 1193, 2) | _ => none, fun _ => none, fun _ => none, fun _ => none, fun _ _ _ _ _ => False, none, 0, 0)
def X_At_init : me_X := (b_At_init, fun _ => none, fun i => match i with | 9 => some (5, 0, 1320, 0) | 15 => some (5, 3, 1323, 0) | 18 => some (5, 1, 1321, 1) | 24 => some (5, 2, 1322, 2) | _ => none, fun _ => none, fun i => match i with | 22 => some 106 | _ => none, fun _ => none, fun _ _ _ _ _ => False, none, 3, 0)
def X_Ms_init : me_X := (b_Ms_init, fun _ => none, fun i => match i with | 9 => some (9, 0, 1576, 0) | 15 => some (9, 1, 1577, 0) | 18 => some (9, 2, 1578, 0) | 21 => some (9, 3, 1579, 0) | 24 => some (9, 4, 1580, 0) | 27 => some (9, 5, 1581, 2) | 31 => some (9, 6, 1582, 2) | _ => none, fun _ => none, fun _ => none, fun _ => none, fun _ _ _ _ _ => False, none, 3, 0)
def X_Net_send : me_X := (b_Net_send, fun i => match i with | 11 => some (1, 0, 1064, 2) | 17 => some (1, 1, 1065, 0) | 21 => some (1, 2, 1066, 0) | _ => none, fun i => match i with | 17 => some (1, 1, 1065, 0) | 21 => some (1, 2, 1066, 0) | _ => none, fun _ => none, fun _ => none, fun _ => none, fun _ _ _ _ _ => False, none, 0, 0)
def X_Rp_startCommand : me_X := (b_Rp_startCommand, fun i => match i with | 9 => some (2, 0, 1128, 0) | 15 => some (2, 1, 1129, 0) | 21 => some (2, 3, 1131, 2) | 27 => some (2, 4, 1132, 2) | 34 => some (2, 5, 1133, 2) | _ => none, fun _ => none, fun i => match i with | 32 => some (5, 8) | 53 => some (7, 3) | 69 => some (9, 7) | _ => none, fun _ => none, fun _ => none, fun pc => match pc with | 9 => me_cV eL X_Or_init 4 4 7 | 12 => me_cV eL X_Rp_fitted 3 7 2 | 24 => me_cV eL X_En_become 3 3 3 | 40 => me_cV eL X_At_init 5 5 5 | 91 => me_cV eL X_Ms_init 8 8 9 | 94 => me_cV eL X_Net_send 2 2 1 | _ => fun _ _ _ _ => False, none, 0, 0)
def X_LM_propose : me_X := (b_LM_propose, fun _ => none, fun _ => none, fun i => match i with | 44 => some (6, 3) | _ => none, fun _ => none, fun _ => none, fun pc => match pc with | 2 => me_cV eL X_LM_workingReplica 2 2 0 | 14 => me_cV eL X_LM_isKey 2 2 0 | 24 => me_cV eL X_Rp_freeInstance 1 3 2 | 54 => me_cV eL X_Cmd_init 4 4 6 | 57 => me_cV eL X_Rp_startCommand 3 6 2 | _ => fun _ _ _ _ => False, none, 0, 1)
def X_LM_entryAt : me_X := (b_LM_entryAt, fun i => match i with | 7 => some (0, 0, 1000, 0) | 25 => some (0, 3, 1003, 2) | 94 => some (2, 4, 1132, 2) | _ => none, fun _ => none, fun _ => none, fun _ => none, fun _ => none, fun pc => match pc with | 2 => me_cV eL X_LM_isReplica 2 2 0 | _ => fun _ _ _ _ => False, none, 0, 3)
def X_En_isSettled : me_X := (b_En_isSettled, fun i => match i with | 9 => some (3, 0, 1192, 0) | _ => none, fun _ => none, fun _ => none, fun _ => none, fun _ => none, fun _ _ _ _ _ => False, none, 0, 2)
def X_Rp_nextBallot : me_X := (b_Rp_nextBallot, fun i => match i with | 9 => some (2, 0, 1128, 0) | 15 => some (2, 1, 1129, 0) | _ => none, fun _ => none, fun _ => none, fun _ => none, fun _ => none, fun _ _ _ _ _ => False, none, 0, 1)
def X_Rp_sendToOthers : me_X := (b_Rp_sendToOthers, fun i => match i with | 9 => some (2, 0, 1128, 0) | 15 => some (2, 1, 1129, 0) | 21 => some (2, 3, 1131, 2) | _ => none, fun _ => none, fun i => match i with | 69 => some (9, 7) | _ => none, fun _ => none, fun _ => none, fun pc => match pc with | 41 => me_cV eL X_Ms_init 8 8 9 | 44 => me_cV eL X_Net_send 2 2 1 | _ => fun _ _ _ _ => False, none, 0, 0)
def X_Rp_startPreparing : me_X := (b_Rp_startPreparing, fun i => match i with | 18 => some (2, 2, 1130, 0) | 27 => some (2, 4, 1132, 2) | 34 => some (2, 5, 1133, 2) | 50 => some (3, 2, 1194, 0) | _ => none, fun i => match i with | 50 => some (3, 2, 1194, 0) | _ => none, fun i => match i with | 32 => some (5, 8) | _ => none, fun _ => none, fun _ => none, fun pc => match pc with | 10 => me_cV eL X_Rp_nextBallot 2 3 2 | 42 => me_cV eL X_At_init 5 5 5 | 51 => me_cV eL X_Rp_sendToOthers 5 6 2 | _ => fun _ _ _ _ => False, none, 0, 1)
def X_LM_prepare : me_X := (b_LM_prepare, fun _ => none, fun _ => none, fun _ => none, fun _ => none, fun _ => none, fun pc => match pc with | 2 => me_cV eL X_LM_workingReplica 2 2 0 | 9 => me_cV eL X_LM_entryAt 3 4 0 | 25 => me_cV eL X_En_isSettled 1 1 3 | 35 => me_cV eL X_Rp_startPreparing 2 3 2 | _ => fun _ _ _ _ => False, none, 0, 1)
def X_Net_at : me_X := (b_Net_at, fun i => match i with | 11 => some (1, 0, 1064, 2) | 17 => some (1, 1, 1065, 0) | _ => none, fun _ => none, fun _ => none, fun _ => none, fun _ => none, fun _ _ _ _ _ => False, none, 0, 3)
def X_Net_take : me_X := (b_Net_take, fun i => match i with | 11 => some (1, 0, 1064, 2) | 17 => some (1, 1, 1065, 0) | _ => none, fun i => match i with | 17 => some (1, 1, 1065, 0) | _ => none, fun _ => none, fun _ => none, fun _ => none, fun pc => match pc with | 2 => me_cV eL X_Net_at 2 2 1 | _ => fun _ _ _ _ => False, none, 0, 3)
def X_Ms_asksForVote : me_X := (b_Ms_asksForVote, fun i => match i with | 9 => some (9, 0, 1576, 0) | _ => none, fun _ => none, fun _ => none, fun _ => none, fun _ => none, fun _ _ _ _ _ => False, none, 0, 2)
def X_Rp_sendBack : me_X := (b_Rp_sendBack, fun i => match i with | 9 => some (2, 0, 1128, 0) | 21 => some (2, 3, 1131, 2) | 92 => some (9, 3, 1579, 0) | 138 => some (9, 4, 1580, 0) | 241 => some (9, 1, 1577, 0) | _ => none, fun _ => none, fun i => match i with | 69 => some (9, 7) | _ => none, fun _ => none, fun _ => none, fun pc => match pc with | 28 => me_cV eL X_Ms_init 8 8 9 | 31 => me_cV eL X_Net_send 2 2 1 | _ => fun _ _ _ _ => False, none, 0, 0)
def X_En_vote : me_X := (b_En_vote, fun _ => none, fun i => match i with | 19 => some (3, 2, 1194, 0) | 22 => some (3, 3, 1195, 0) | _ => none, fun _ => none, fun _ => none, fun _ => none, fun pc => match pc with | 13 => me_cV eL X_En_become 3 3 3 | _ => fun _ _ _ _ => False, none, 0, 0)
def X_Rp_onPreaccept : me_X := (b_Rp_onPreaccept, fun i => match i with | 47 => some (3, 0, 1192, 0) | 50 => some (3, 2, 1194, 0) | 92 => some (9, 3, 1579, 0) | 102 => some (3, 1, 1193, 2) | 135 => some (3, 3, 1195, 0) | 138 => some (9, 4, 1580, 0) | 141 => some (9, 5, 1581, 2) | _ => none, fun _ => none, fun _ => none, fun _ => none, fun _ => none, fun pc => match pc with | 52 => me_cV eL X_Rp_fitted 3 7 2 | 59 => me_cV eL X_En_vote 4 4 3 | 70 => me_cV eL X_Rp_sendBack 5 5 2 | _ => fun _ _ _ _ => False, none, 0, 0)
def X_Rp_liveAttempt : me_X := (b_Rp_liveAttempt, fun i => match i with | 27 => some (2, 4, 1132, 2) | 34 => some (2, 5, 1133, 2) | 50 => some (3, 2, 1194, 0) | 92 => some (9, 3, 1579, 0) | 138 => some (9, 4, 1580, 0) | 218 => some (5, 0, 1320, 0) | 222 => some (5, 3, 1323, 0) | _ => none, fun _ => none, fun _ => none, fun _ => none, fun _ => none, fun pc => match pc with | 60 => me_cV eL X_En_isSettled 1 1 3 | _ => fun _ _ _ _ => False, none, 0, 3)
def X_At_countOrder : me_X := (b_At_countOrder, fun i => match i with | 28 => some (5, 4, 1324, 0) | 31 => some (5, 5, 1325, 1) | 34 => some (7, 1, 1449, 0) | 39 => some (5, 6, 1326, 0) | 42 => some (7, 2, 1450, 0) | 45 => some (5, 7, 1327, 0) | _ => none, fun i => match i with | 28 => some (5, 4, 1324, 0) | 31 => some (5, 5, 1325, 1) | 39 => some (5, 6, 1326, 0) | 45 => some (5, 7, 1327, 0) | _ => none, fun _ => none, fun _ => none, fun _ => none, fun pc => match pc with | 68 => me_cMax | _ => fun _ _ _ _ => False, none, 0, 0)
def X_Rp_commitHere : me_X := (b_Rp_commitHere, fun i => match i with | 27 => some (2, 4, 1132, 2) | _ => none, fun _ => none, fun _ => none, fun _ => none, fun _ => none, fun pc => match pc with | 8 => me_cV eL X_En_become 3 3 3 | 16 => me_cV eL X_Rp_sendToOthers 5 6 2 | _ => fun _ _ _ _ => False, none, 0, 0)
def X_At_enterPhase : me_X := (b_At_enterPhase, fun _ => none, fun i => match i with | 15 => some (5, 3, 1323, 0) | 28 => some (5, 4, 1324, 0) | _ => none, fun _ => none, fun _ => none, fun _ => none, fun _ _ _ _ _ => False, none, 0, 0)
def X_Rp_beginAccepting : me_X := (b_Rp_beginAccepting, fun i => match i with | 27 => some (2, 4, 1132, 2) | 218 => some (5, 0, 1320, 0) | _ => none, fun _ => none, fun _ => none, fun _ => none, fun _ => none, fun pc => match pc with | 12 => me_cV eL X_En_vote 4 4 3 | 17 => me_cV eL X_At_enterPhase 2 2 5 | 28 => me_cV eL X_Rp_sendToOthers 5 6 2 | _ => fun _ _ _ _ => False, none, 0, 0)
def X_Rp_onPreacceptOk : me_X := (b_Rp_onPreacceptOk, fun i => match i with | 15 => some (2, 1, 1129, 0) | 18 => some (2, 2, 1130, 0) | 27 => some (2, 4, 1132, 2) | 92 => some (9, 3, 1579, 0) | 102 => some (3, 1, 1193, 2) | 141 => some (9, 5, 1581, 2) | 154 => some (7, 0, 1448, 2) | 158 => some (5, 6, 1326, 0) | 161 => some (5, 7, 1327, 0) | 164 => some (5, 1, 1321, 1) | 167 => some (5, 5, 1325, 1) | 170 => some (5, 4, 1324, 0) | _ => none, fun _ => none, fun i => match i with | 53 => some (7, 3) | _ => none, fun _ => none, fun _ => none, fun pc => match pc with | 3 => me_cV eL X_Rp_liveAttempt 3 5 2 | 17 => me_cV eL X_At_countOrder 2 2 5 | 49 => me_cV eL X_Or_init 4 4 7 | 100 => me_cV eL X_Rp_commitHere 3 3 2 | 130 => me_cV eL X_Rp_beginAccepting 4 4 2 | _ => fun _ _ _ _ => False, none, 0, 0)
def X_Rp_onAccept : me_X := (b_Rp_onAccept, fun i => match i with | 50 => some (3, 2, 1194, 0) | 138 => some (9, 4, 1580, 0) | 141 => some (9, 5, 1581, 2) | _ => none, fun _ => none, fun _ => none, fun _ => none, fun _ => none, fun pc => match pc with | 22 => me_cV eL X_En_vote 4 4 3 | 30 => me_cV eL X_Rp_sendBack 5 5 2 | _ => fun _ _ _ _ => False, none, 0, 0)
def X_Rp_onAcceptOk : me_X := (b_Rp_onAcceptOk, fun i => match i with | 18 => some (2, 2, 1130, 0) | 27 => some (2, 4, 1132, 2) | 92 => some (9, 3, 1579, 0) | 102 => some (3, 1, 1193, 2) | 170 => some (5, 4, 1324, 0) | _ => none, fun i => match i with | 170 => some (5, 4, 1324, 0) | _ => none, fun _ => none, fun _ => none, fun _ => none, fun pc => match pc with | 3 => me_cV eL X_Rp_liveAttempt 3 5 2 | 50 => me_cV eL X_Rp_commitHere 3 3 2 | _ => fun _ _ _ _ => False, none, 0, 0)
def X_Rp_onCommit : me_X := (b_Rp_onCommit, fun i => match i with | 141 => some (9, 5, 1581, 2) | _ => none, fun _ => none, fun _ => none, fun _ => none, fun _ => none, fun pc => match pc with | 1 => me_cV eL X_En_isSettled 1 1 3 | 13 => me_cV eL X_En_become 3 3 3 | _ => fun _ _ _ _ => False, none, 0, 0)
def X_Rt_init : me_X := (b_Rt_init, fun i => match i with | 15 => some (3, 0, 1192, 0) | 21 => some (3, 1, 1193, 2) | 26 => some (3, 3, 1195, 0) | _ => none, fun i => match i with | 9 => some (8, 0, 1512, 0) | 20 => some (8, 1, 1513, 0) | 25 => some (8, 2, 1514, 2) | 29 => some (8, 3, 1515, 0) | _ => none, fun _ => none, fun _ => none, fun _ => none, fun _ _ _ _ _ => False, none, 3, 0)
def X_Rp_onPrepare : me_X := (b_Rp_onPrepare, fun i => match i with | 9 => some (2, 0, 1128, 0) | 50 => some (3, 2, 1194, 0) | 138 => some (9, 4, 1580, 0) | _ => none, fun i => match i with | 50 => some (3, 2, 1194, 0) | _ => none, fun i => match i with | 180 => some (8, 4) | _ => none, fun _ => none, fun _ => none, fun pc => match pc with | 34 => me_cV eL X_Rt_init 3 3 8 | 37 => me_cV eL X_Rp_sendBack 5 5 2 | _ => fun _ _ _ _ => False, none, 0, 0)
def X_At_countReport : me_X := (b_At_countReport, fun i => match i with | 24 => some (5, 2, 1322, 2) | 28 => some (5, 4, 1324, 0) | _ => none, fun i => match i with | 28 => some (5, 4, 1324, 0) | _ => none, fun _ => none, fun _ => none, fun _ => none, fun _ _ _ _ _ => False, none, 0, 0)
def X_At_lastAccepted : me_X := (b_At_lastAccepted, fun i => match i with | 24 => some (5, 2, 1322, 2) | 28 => some (5, 4, 1324, 0) | 54 => some (8, 1, 1513, 0) | 57 => some (8, 3, 1515, 0) | _ => none, fun _ => none, fun _ => none, fun _ => none, fun _ => none, fun _ _ _ _ _ => False, none, 0, 3)
def X_Rt_isFastVote : me_X := (b_Rt_isFastVote, fun i => match i with | 9 => some (8, 0, 1512, 0) | 20 => some (8, 1, 1513, 0) | 29 => some (8, 3, 1515, 0) | _ => none, fun _ => none, fun _ => none, fun _ => none, fun _ => none, fun _ _ _ _ _ => False, none, 0, 2)
def X_Or_agreesWith : me_X := (b_Or_agreesWith, fun i => match i with | 13 => some (7, 1, 1449, 0) | 17 => some (7, 2, 1450, 0) | _ => none, fun _ => none, fun _ => none, fun _ => none, fun _ => none, fun _ _ _ _ _ => False, none, 0, 2)
def X_At_countSharers : me_X := (b_At_countSharers, fun i => match i with | 24 => some (5, 2, 1322, 2) | 28 => some (5, 4, 1324, 0) | 64 => some (8, 2, 1514, 2) | _ => none, fun _ => none, fun _ => none, fun _ => none, fun _ => none, fun pc => match pc with | 22 => me_cV eL X_Rt_isFastVote 2 2 8 | 39 => me_cV eL X_Or_agreesWith 2 2 7 | _ => fun _ _ _ _ => False, none, 0, 1)
def X_At_sharedFastVote : me_X := (b_At_sharedFastVote, fun i => match i with | 24 => some (5, 2, 1322, 2) | 28 => some (5, 4, 1324, 0) | 64 => some (8, 2, 1514, 2) | _ => none, fun _ => none, fun _ => none, fun _ => none, fun _ => none, fun pc => match pc with | 17 => me_cV eL X_Rt_isFastVote 2 2 8 | 34 => me_cV eL X_At_countSharers 3 5 5 | _ => fun _ _ _ _ => False, none, 0, 3)
def X_At_firstPreaccepted : me_X := (b_At_firstPreaccepted, fun i => match i with | 24 => some (5, 2, 1322, 2) | 28 => some (5, 4, 1324, 0) | 54 => some (8, 1, 1513, 0) | _ => none, fun _ => none, fun _ => none, fun _ => none, fun _ => none, fun _ _ _ _ _ => False, none, 0, 3)
def X_Rp_preacceptAgain : me_X := (b_Rp_preacceptAgain, fun i => match i with | 27 => some (2, 4, 1132, 2) | 218 => some (5, 0, 1320, 0) | _ => none, fun _ => none, fun i => match i with | 53 => some (7, 3) | _ => none, fun _ => none, fun _ => none, fun pc => match pc with | 9 => me_cV eL X_Or_init 4 4 7 | 12 => me_cV eL X_Rp_fitted 3 7 2 | 30 => me_cV eL X_En_vote 4 4 3 | 35 => me_cV eL X_At_enterPhase 2 2 5 | 47 => me_cV eL X_Rp_sendToOthers 5 6 2 | _ => fun _ _ _ _ => False, none, 0, 0)
def X_Rp_finishOpen : me_X := (b_Rp_finishOpen, fun i => match i with | 18 => some (2, 2, 1130, 0) | 154 => some (7, 0, 1448, 2) | 208 => some (8, 2, 1514, 2) | _ => none, fun _ => none, fun i => match i with | 53 => some (7, 3) | 213 => some (6, 3) | _ => none, fun _ => none, fun _ => none, fun pc => match pc with | 1 => me_cV eL X_At_lastAccepted 1 4 5 | 14 => me_cV eL X_At_sharedFastVote 3 4 5 | 20 => me_cV eL X_At_firstPreaccepted 1 2 5 | 36 => me_cV eL X_Rp_beginAccepting 4 4 2 | 55 => me_cV eL X_Rp_beginAccepting 4 4 2 | 77 => me_cV eL X_Rp_preacceptAgain 4 5 2 | 97 => me_cV eL X_Cmd_init 4 4 6 | 102 => me_cV eL X_Or_init 4 4 7 | 105 => me_cV eL X_Rp_beginAccepting 4 4 2 | _ => fun _ _ _ _ => False, none, 0, 0)
def X_Rp_onPromise : me_X := (b_Rp_onPromise, fun i => match i with | 9 => some (2, 0, 1128, 0) | 18 => some (2, 2, 1130, 0) | 92 => some (9, 3, 1579, 0) | 170 => some (5, 4, 1324, 0) | 185 => some (9, 6, 1582, 2) | _ => none, fun _ => none, fun i => match i with | 180 => some (8, 4) | _ => none, fun _ => none, fun _ => none, fun pc => match pc with | 3 => me_cV eL X_Rp_liveAttempt 3 5 2 | 17 => me_cV eL X_At_countReport 2 2 5 | 41 => me_cV eL X_Rt_init 3 3 8 | 44 => me_cV eL X_At_countReport 2 2 5 | 53 => me_cV eL X_Rp_finishOpen 3 6 2 | _ => fun _ _ _ _ => False, none, 0, 0)
def X_Rp_receive : me_X := (b_Rp_receive, fun i => match i with | 27 => some (2, 4, 1132, 2) | 88 => some (2, 7, 1135, 1) | 92 => some (9, 3, 1579, 0) | 102 => some (3, 1, 1193, 2) | 110 => some (9, 0, 1576, 0) | _ => none, fun _ => none, fun _ => none, fun _ => none, fun _ => none, fun pc => match pc with | 19 => me_cV eL X_Ms_asksForVote 1 1 9 | 26 => me_cV eL X_En_isSettled 1 1 3 | 40 => me_cV eL X_Rp_sendBack 5 5 2 | 95 => me_cV eL X_Rp_onPreaccept 3 4 2 | 103 => me_cV eL X_Rp_onPreacceptOk 2 6 2 | 112 => me_cV eL X_Rp_onAccept 3 3 2 | 120 => me_cV eL X_Rp_onAcceptOk 2 3 2 | 129 => me_cV eL X_Rp_onCommit 3 3 2 | 138 => me_cV eL X_Rp_onPrepare 3 3 2 | 147 => me_cV eL X_Rp_onPromise 3 4 2 | _ => fun _ _ _ _ => False, none, 0, 0)
def X_LM_deliver : me_X := (b_LM_deliver, fun i => match i with | 19 => some (0, 2, 1002, 2) | 25 => some (0, 3, 1003, 2) | 71 => some (9, 2, 1578, 0) | 80 => some (9, 0, 1576, 0) | _ => none, fun _ => none, fun _ => none, fun _ => none, fun _ => none, fun pc => match pc with | 5 => me_cV eL X_Net_take 2 4 1 | 25 => me_cV eL X_Rp_receive 2 3 2 | _ => fun _ _ _ _ => False, none, 0, 1)
def X_LM_lose : me_X := (b_LM_lose, fun i => match i with | 19 => some (0, 2, 1002, 2) | _ => none, fun _ => none, fun _ => none, fun _ => none, fun _ => none, fun pc => match pc with | 5 => me_cV eL X_Net_take 2 4 1 | _ => fun _ _ _ _ => False, none, 0, 2)
def X_LM_crash : me_X := (b_LM_crash, fun i => match i with | 13 => some (0, 1, 1001, 0) | 83 => some (0, 4, 1004, 0) | _ => none, fun i => match i with | 83 => some (0, 4, 1004, 0) | 86 => some (2, 7, 1135, 1) | _ => none, fun _ => none, fun _ => none, fun _ => none, fun pc => match pc with | 2 => me_cV eL X_LM_workingReplica 2 2 0 | _ => fun _ _ _ _ => False, none, 0, 2)
def X_Sto_contains : me_X := (b_Sto_contains, fun _ => none, fun _ => none, fun _ => none, fun _ => none, fun _ => none, fun _ _ _ _ _ => False, none, 0, 2)
def X_Sto_findReach : me_X := (b_Sto_findReach, fun i => match i with | 15 => some (4, 1, 1257, 2) | 34 => some (3, 0, 1192, 0) | 39 => some (3, 1, 1193, 2) | 43 => some (7, 2, 1450, 0) | _ => none, fun _ => none, fun _ => none, fun _ => none, fun _ => none, fun pc => match pc with | 66 => me_cS eL X_Sto_contains 2 2 | _ => fun _ _ _ _ => False, none, 0, 0)
def X_Sto_readyComponent : me_X := (b_Sto_readyComponent, fun i => match i with | 15 => some (4, 1, 1257, 2) | 56 => some (4, 2, 1258, 0) | _ => none, fun _ => none, fun _ => none, fun _ => none, fun _ => none, fun pc => match pc with | 41 => me_cS eL X_Sto_contains 2 2 | 56 => me_cS eL X_Sto_contains 2 2 | _ => fun _ _ _ _ => False, none, 0, 1)
def X_Sto_leastReadyComponent : me_X := (b_Sto_leastReadyComponent, fun i => match i with | 34 => some (3, 0, 1192, 0) | _ => none, fun _ => none, fun _ => none, fun _ => none, fun _ => none, fun pc => match pc with | 20 => me_cV eL X_Sto_readyComponent 2 5 4 | _ => fun _ _ _ _ => False, none, 0, 1)
def X_Sto_leastSeq : me_X := (b_Sto_leastSeq, fun i => match i with | 39 => some (3, 1, 1193, 2) | 67 => some (7, 1, 1449, 0) | _ => none, fun _ => none, fun _ => none, fun _ => none, fun _ => none, fun pc => match pc with | 18 => me_cS eL X_Sto_contains 2 2 | _ => fun _ _ _ _ => False, none, 0, 1)
def X_Sto_runEntry : me_X := (b_Sto_runEntry, fun i => match i with | 9 => some (4, 0, 1256, 2) | 18 => some (4, 3, 1259, 0) | 39 => some (3, 1, 1193, 2) | 70 => some (7, 0, 1448, 2) | 74 => some (6, 0, 1384, 0) | 79 => some (6, 1, 1385, 0) | 85 => some (6, 2, 1386, 0) | _ => none, fun i => match i with | 18 => some (4, 3, 1259, 0) | 34 => some (3, 0, 1192, 0) | 82 => some (3, 4, 1196, 0) | 88 => some (3, 5, 1197, 0) | _ => none, fun _ => none, fun _ => none, fun _ => none, fun _ _ _ _ _ => False, none, 0, 0)
def X_Sto_runComponent : me_X := (b_Sto_runComponent, fun i => match i with | 56 => some (4, 2, 1258, 0) | _ => none, fun i => match i with | 56 => some (4, 2, 1258, 0) | _ => none, fun _ => none, fun _ => none, fun _ => none, fun pc => match pc with | 19 => me_cV eL X_Sto_leastSeq 3 6 4 | 29 => me_cV eL X_Sto_runEntry 2 3 4 | _ => fun _ _ _ _ => False, none, 0, 0)
def X_Sto_runReady : me_X := (b_Sto_runReady, fun i => match i with | 18 => some (4, 3, 1259, 0) | _ => none, fun _ => none, fun _ => none, fun _ => none, fun _ => none, fun pc => match pc with | 7 => me_cV eL X_Sto_findReach 2 4 4 | 20 => me_cV eL X_Sto_leastReadyComponent 2 4 4 | 37 => me_cV eL X_Sto_runComponent 3 6 4 | _ => fun _ _ _ _ => False, none, 0, 1)
def X_LM_execute : me_X := (b_LM_execute, fun i => match i with | 90 => some (2, 6, 1134, 2) | 94 => some (2, 4, 1132, 2) | _ => none, fun _ => none, fun _ => none, fun _ => none, fun _ => none, fun pc => match pc with | 2 => me_cV eL X_LM_workingReplica 2 2 0 | 22 => me_cV eL X_Sto_runReady 2 5 4 | _ => fun _ _ _ _ => False, none, 0, 1)
def X_LM_waiting : me_X := (b_LM_waiting, fun i => match i with | 19 => some (0, 2, 1002, 2) | 104 => some (1, 1, 1065, 0) | _ => none, fun _ => none, fun _ => none, fun _ => none, fun _ => none, fun _ _ _ _ _ => False, none, 0, 1)
def X_LM_message : me_X := (b_LM_message, fun i => match i with | 19 => some (0, 2, 1002, 2) | 71 => some (9, 2, 1578, 0) | 80 => some (9, 0, 1576, 0) | 110 => some (9, 1, 1577, 0) | 113 => some (9, 3, 1579, 0) | _ => none, fun _ => none, fun _ => none, fun _ => none, fun _ => none, fun pc => match pc with | 5 => me_cV eL X_Net_at 2 2 1 | _ => fun _ _ _ _ => False, none, 0, 1)
def X_LM_lost : me_X := (b_LM_lost, fun i => match i with | 19 => some (0, 2, 1002, 2) | 116 => some (1, 2, 1066, 0) | _ => none, fun _ => none, fun _ => none, fun _ => none, fun _ => none, fun _ _ _ _ _ => False, none, 0, 1)
def X_LM_state : me_X := (b_LM_state, fun i => match i with | 119 => some (3, 0, 1192, 0) | _ => none, fun _ => none, fun _ => none, fun _ => none, fun _ => none, fun pc => match pc with | 3 => me_cV eL X_LM_entryAt 3 4 0 | _ => fun _ _ _ _ => False, none, 0, 1)
def X_LM_orderAt : me_X := (b_LM_orderAt, fun i => match i with | 157 => some (3, 1, 1193, 2) | _ => none, fun _ => none, fun _ => none, fun _ => none, fun _ => none, fun pc => match pc with | 3 => me_cV eL X_LM_entryAt 3 4 0 | _ => fun _ _ _ _ => False, none, 0, 3)
def X_Cmd_code : me_X := (b_Cmd_code, fun i => match i with | 9 => some (6, 0, 1384, 0) | 15 => some (6, 1, 1385, 0) | _ => none, fun _ => none, fun _ => none, fun _ => none, fun _ => none, fun _ _ _ _ _ => False, none, 0, 1)
def X_LM_command : me_X := (b_LM_command, fun i => match i with | 126 => some (7, 0, 1448, 2) | _ => none, fun _ => none, fun _ => none, fun _ => none, fun _ => none, fun pc => match pc with | 3 => me_cV eL X_LM_orderAt 3 4 0 | 19 => me_cV eL X_Cmd_code 1 1 6 | _ => fun _ _ _ _ => False, none, 0, 1)
def X_LM_seq : me_X := (b_LM_seq, fun i => match i with | 135 => some (7, 1, 1449, 0) | _ => none, fun _ => none, fun _ => none, fun _ => none, fun _ => none, fun pc => match pc with | 3 => me_cV eL X_LM_orderAt 3 4 0 | _ => fun _ _ _ _ => False, none, 0, 1)
def X_LM_deps : me_X := (b_LM_deps, fun i => match i with | 138 => some (7, 2, 1450, 0) | _ => none, fun _ => none, fun _ => none, fun _ => none, fun _ => none, fun pc => match pc with | 3 => me_cV eL X_LM_orderAt 3 4 0 | _ => fun _ _ _ _ => False, none, 0, 1)
def X_LM_promised : me_X := (b_LM_promised, fun i => match i with | 141 => some (3, 2, 1194, 0) | _ => none, fun _ => none, fun _ => none, fun _ => none, fun _ => none, fun pc => match pc with | 3 => me_cV eL X_LM_entryAt 3 4 0 | _ => fun _ _ _ _ => False, none, 0, 1)
def X_LM_result : me_X := (b_LM_result, fun i => match i with | 119 => some (3, 0, 1192, 0) | 144 => some (3, 4, 1196, 0) | _ => none, fun _ => none, fun _ => none, fun _ => none, fun _ => none, fun pc => match pc with | 3 => me_cV eL X_LM_entryAt 3 4 0 | _ => fun _ _ _ _ => False, none, 0, 1)
def X_LM_place : me_X := (b_LM_place, fun i => match i with | 119 => some (3, 0, 1192, 0) | 147 => some (3, 5, 1197, 0) | _ => none, fun _ => none, fun _ => none, fun _ => none, fun _ => none, fun pc => match pc with | 3 => me_cV eL X_LM_entryAt 3 4 0 | _ => fun _ _ _ _ => False, none, 0, 1)
def X_LM_value : me_X := (b_LM_value, fun i => match i with | 25 => some (0, 3, 1003, 2) | 90 => some (2, 6, 1134, 2) | 153 => some (4, 0, 1256, 2) | _ => none, fun _ => none, fun _ => none, fun _ => none, fun _ => none, fun pc => match pc with | 2 => me_cV eL X_LM_isReplica 2 2 0 | 10 => me_cV eL X_LM_isKey 2 2 0 | _ => fun _ _ _ _ => False, none, 0, 1)
def X_Md_init : me_X := (b_Md_init, fun i => match i with | 86 => some (10, 0, 1640, 0) | _ => none, fun i => match i with | 7 => some (10, 3, 1643, 2) | 13 => some (10, 4, 1644, 2) | 17 => some (10, 5, 1645, 2) | 20 => some (10, 6, 1646, 2) | 23 => some (10, 7, 1647, 2) | 26 => some (10, 8, 1648, 2) | 29 => some (10, 9, 1649, 2) | 32 => some (10, 10, 1650, 2) | 35 => some (10, 11, 1651, 2) | 38 => some (10, 12, 1652, 2) | 41 => some (10, 13, 1653, 2) | 44 => some (10, 14, 1654, 2) | 47 => some (10, 15, 1655, 2) | 50 => some (10, 16, 1656, 2) | 53 => some (10, 17, 1657, 2) | 56 => some (10, 18, 1658, 2) | 59 => some (10, 19, 1659, 2) | 62 => some (10, 20, 1660, 2) | 65 => some (10, 21, 1661, 2) | 68 => some (10, 22, 1662, 2) | 71 => some (10, 23, 1663, 2) | 74 => some (10, 24, 1664, 2) | 77 => some (10, 25, 1665, 2) | 80 => some (10, 28, 1668, 2) | 83 => some (10, 29, 1669, 2) | 86 => some (10, 0, 1640, 0) | 90 => some (10, 1, 1641, 0) | 93 => some (10, 2, 1642, 0) | _ => none, fun _ => none, fun i => match i with | 70000 => some 100 | 70001 => some 101 | _ => none, fun _ => none, fun _ _ _ _ _ => False, none, 1, 0)
def X_Md_known : me_X := (b_Md_known, fun i => match i with | 86 => some (10, 0, 1640, 0) | 93 => some (10, 2, 1642, 0) | _ => none, fun _ => none, fun _ => none, fun _ => none, fun _ => none, fun _ _ _ _ _ => False, none, 0, 2)
def X_Md_interfere : me_X := (b_Md_interfere, fun _ => none, fun _ => none, fun _ => none, fun _ => none, fun _ => none, fun _ _ _ _ _ => False, none, 0, 2)
def X_Md_related : me_X := (b_Md_related, fun i => match i with | 20 => some (10, 6, 1646, 2) | 23 => some (10, 7, 1647, 2) | _ => none, fun _ => none, fun _ => none, fun _ => none, fun _ => none, fun pc => match pc with | 32 => me_cS eL X_Md_interfere 2 2 | _ => fun _ _ _ _ => False, none, 0, 2)
def X_Md_put : me_X := (b_Md_put, fun i => match i with | 20 => some (10, 6, 1646, 2) | 23 => some (10, 7, 1647, 2) | 26 => some (10, 8, 1648, 2) | _ => none, fun _ => none, fun _ => none, fun _ => none, fun _ => none, fun _ _ _ _ _ => False, none, 0, 0)
def X_Md_fit : me_X := (b_Md_fit, fun i => match i with | 29 => some (10, 9, 1649, 2) | 32 => some (10, 10, 1650, 2) | 93 => some (10, 2, 1642, 0) | _ => none, fun _ => none, fun _ => none, fun _ => none, fun _ => none, fun pc => match pc with | 26 => me_cV eL X_Md_related 5 6 10 | 96 => me_cV eL X_Md_put 5 5 10 | _ => fun _ _ _ _ => False, none, 0, 0)
def X_Md_send : me_X := (b_Md_send, fun i => match i with | 20 => some (10, 6, 1646, 2) | 23 => some (10, 7, 1647, 2) | 26 => some (10, 8, 1648, 2) | 29 => some (10, 9, 1649, 2) | 32 => some (10, 10, 1650, 2) | 38 => some (10, 12, 1652, 2) | 80 => some (10, 28, 1668, 2) | 108 => some (10, 26, 1666, 0) | 111 => some (10, 27, 1667, 0) | _ => none, fun i => match i with | 108 => some (10, 26, 1666, 0) | 111 => some (10, 27, 1667, 0) | _ => none, fun _ => none, fun _ => none, fun _ => none, fun _ _ _ _ _ => False, none, 0, 0)
def X_Md_sendAll : me_X := (b_Md_sendAll, fun i => match i with | 86 => some (10, 0, 1640, 0) | _ => none, fun _ => none, fun _ => none, fun _ => none, fun _ => none, fun pc => match pc with | 26 => me_cV eL X_Md_send 6 8 10 | _ => fun _ _ _ _ => False, none, 0, 0)
def X_Md_take : me_X := (b_Md_take, fun i => match i with | 80 => some (10, 28, 1668, 2) | 108 => some (10, 26, 1666, 0) | _ => none, fun i => match i with | 108 => some (10, 26, 1666, 0) | _ => none, fun _ => none, fun _ => none, fun _ => none, fun _ _ _ _ _ => False, none, 0, 0)
def X_Md_lose : me_X := (b_Md_lose, fun i => match i with | 108 => some (10, 26, 1666, 0) | _ => none, fun _ => none, fun _ => none, fun _ => none, fun _ => none, fun pc => match pc with | 16 => me_cV eL X_Md_take 2 3 10 | _ => fun _ _ _ _ => False, none, 0, 2)
def X_Md_preaccept : me_X := (b_Md_preaccept, fun i => match i with | 20 => some (10, 6, 1646, 2) | 35 => some (10, 11, 1651, 2) | 38 => some (10, 12, 1652, 2) | 80 => some (10, 28, 1668, 2) | _ => none, fun _ => none, fun _ => none, fun _ => none, fun _ => none, fun pc => match pc with | 107 => me_cV eL X_Md_fit 7 10 10 | 117 => me_cV eL X_Md_send 6 8 10 | _ => fun _ _ _ _ => False, none, 0, 0)
def X_Md_accept : me_X := (b_Md_accept, fun i => match i with | 29 => some (10, 9, 1649, 2) | 32 => some (10, 10, 1650, 2) | 35 => some (10, 11, 1651, 2) | 38 => some (10, 12, 1652, 2) | 80 => some (10, 28, 1668, 2) | _ => none, fun _ => none, fun _ => none, fun _ => none, fun _ => none, fun pc => match pc with | 69 => me_cV eL X_Md_put 5 5 10 | 109 => me_cV eL X_Md_send 6 8 10 | _ => fun _ _ _ _ => False, none, 0, 0)
def X_Md_asked : me_X := (b_Md_asked, fun i => match i with | 35 => some (10, 11, 1651, 2) | 80 => some (10, 28, 1668, 2) | _ => none, fun _ => none, fun _ => none, fun _ => none, fun _ => none, fun pc => match pc with | 48 => me_cV eL X_Md_send 6 8 10 | _ => fun _ _ _ _ => False, none, 0, 0)
def X_Md_settle : me_X := (b_Md_settle, fun i => match i with | 29 => some (10, 9, 1649, 2) | 32 => some (10, 10, 1650, 2) | 80 => some (10, 28, 1668, 2) | _ => none, fun _ => none, fun _ => none, fun _ => none, fun _ => none, fun pc => match pc with | 19 => me_cV eL X_Md_put 5 5 10 | _ => fun _ _ _ _ => False, none, 0, 0)
def X_Md_counts : me_X := (b_Md_counts, fun i => match i with | 20 => some (10, 6, 1646, 2) | 35 => some (10, 11, 1651, 2) | 47 => some (10, 15, 1655, 2) | 50 => some (10, 16, 1656, 2) | 53 => some (10, 17, 1657, 2) | 56 => some (10, 18, 1658, 2) | 59 => some (10, 19, 1659, 2) | 62 => some (10, 20, 1660, 2) | 65 => some (10, 21, 1661, 2) | 68 => some (10, 22, 1662, 2) | 71 => some (10, 23, 1663, 2) | 74 => some (10, 24, 1664, 2) | 77 => some (10, 25, 1665, 2) | 80 => some (10, 28, 1668, 2) | _ => none, fun _ => none, fun _ => none, fun _ => none, fun _ => none, fun _ _ _ _ _ => False, none, 0, 2)
def X_Md_finish : me_X := (b_Md_finish, fun i => match i with | 20 => some (10, 6, 1646, 2) | 29 => some (10, 9, 1649, 2) | 32 => some (10, 10, 1650, 2) | _ => none, fun _ => none, fun _ => none, fun _ => none, fun _ => none, fun pc => match pc with | 38 => me_cV eL X_Md_sendAll 5 6 10 | _ => fun _ _ _ _ => False, none, 0, 0)
def X_Md_start : me_X := (b_Md_start, fun i => match i with | 47 => some (10, 15, 1655, 2) | 50 => some (10, 16, 1656, 2) | 53 => some (10, 17, 1657, 2) | 56 => some (10, 18, 1658, 2) | _ => none, fun _ => none, fun _ => none, fun _ => none, fun _ => none, fun _ _ _ _ _ => False, none, 0, 0)
def X_Md_agree : me_X := (b_Md_agree, fun i => match i with | 29 => some (10, 9, 1649, 2) | 32 => some (10, 10, 1650, 2) | 38 => some (10, 12, 1652, 2) | 53 => some (10, 17, 1657, 2) | _ => none, fun _ => none, fun _ => none, fun _ => none, fun _ => none, fun pc => match pc with | 15 => me_cV eL X_Md_put 5 5 10 | 61 => me_cV eL X_Md_start 4 4 10 | 75 => me_cV eL X_Md_sendAll 5 6 10 | _ => fun _ _ _ _ => False, none, 0, 0)
def X_Md_afterPreaccept : me_X := (b_Md_afterPreaccept, fun i => match i with | 23 => some (10, 7, 1647, 2) | 26 => some (10, 8, 1648, 2) | 50 => some (10, 16, 1656, 2) | 56 => some (10, 18, 1658, 2) | 71 => some (10, 23, 1663, 2) | 74 => some (10, 24, 1664, 2) | 86 => some (10, 0, 1640, 0) | 90 => some (10, 1, 1641, 0) | _ => none, fun _ => none, fun _ => none, fun _ => none, fun _ => none, fun pc => match pc with | 183 => me_cV eL X_Md_finish 5 6 10 | 226 => me_cV eL X_Md_agree 7 8 10 | _ => fun _ _ _ _ => False, none, 0, 0)
def X_Md_accepted : me_X := (b_Md_accepted, fun i => match i with | 62 => some (10, 20, 1660, 2) | 77 => some (10, 25, 1665, 2) | _ => none, fun _ => none, fun _ => none, fun _ => none, fun _ => none, fun _ _ _ _ _ => False, none, 0, 1)
def X_Md_plain : me_X := (b_Md_plain, fun i => match i with | 59 => some (10, 19, 1659, 2) | 62 => some (10, 20, 1660, 2) | 77 => some (10, 25, 1665, 2) | _ => none, fun _ => none, fun _ => none, fun _ => none, fun _ => none, fun _ _ _ _ _ => False, none, 0, 2)
def X_Md_common : me_X := (b_Md_common, fun i => match i with | 71 => some (10, 23, 1663, 2) | 74 => some (10, 24, 1664, 2) | 90 => some (10, 1, 1641, 0) | _ => none, fun _ => none, fun _ => none, fun _ => none, fun _ => none, fun pc => match pc with | 29 => me_cV eL X_Md_plain 3 3 10 | 39 => me_cV eL X_Md_plain 3 3 10 | _ => fun _ _ _ _ => False, none, 0, 1)
def X_Md_preaccepted : me_X := (b_Md_preaccepted, fun i => match i with | 62 => some (10, 20, 1660, 2) | _ => none, fun _ => none, fun _ => none, fun _ => none, fun _ => none, fun _ _ _ _ _ => False, none, 0, 1)
def X_Md_afterPromise : me_X := (b_Md_afterPromise, fun i => match i with | 20 => some (10, 6, 1646, 2) | 23 => some (10, 7, 1647, 2) | 26 => some (10, 8, 1648, 2) | 29 => some (10, 9, 1649, 2) | 32 => some (10, 10, 1650, 2) | 38 => some (10, 12, 1652, 2) | 53 => some (10, 17, 1657, 2) | 56 => some (10, 18, 1658, 2) | 59 => some (10, 19, 1659, 2) | 62 => some (10, 20, 1660, 2) | 65 => some (10, 21, 1661, 2) | 68 => some (10, 22, 1662, 2) | 71 => some (10, 23, 1663, 2) | 74 => some (10, 24, 1664, 2) | 77 => some (10, 25, 1665, 2) | 90 => some (10, 1, 1641, 0) | _ => none, fun _ => none, fun _ => none, fun _ => none, fun _ => none, fun pc => match pc with | 118 => me_cV eL X_Md_accepted 3 5 10 | 138 => me_cV eL X_Md_common 4 7 10 | 179 => me_cV eL X_Md_agree 7 8 10 | 192 => me_cV eL X_Md_preaccepted 3 4 10 | 210 => me_cV eL X_Md_agree 7 8 10 | 233 => me_cV eL X_Md_fit 7 10 10 | 257 => me_cV eL X_Md_start 4 4 10 | 270 => me_cV eL X_Md_sendAll 5 6 10 | _ => fun _ _ _ _ => False, none, 0, 0)
def X_Md_receive : me_X := (b_Md_receive, fun i => match i with | 20 => some (10, 6, 1646, 2) | 29 => some (10, 9, 1649, 2) | 32 => some (10, 10, 1650, 2) | 56 => some (10, 18, 1658, 2) | 90 => some (10, 1, 1641, 0) | _ => none, fun _ => none, fun _ => none, fun _ => none, fun _ => none, fun pc => match pc with | 53 => me_cV eL X_Md_send 6 8 10 | 66 => me_cV eL X_Md_preaccept 4 6 10 | 79 => me_cV eL X_Md_accept 4 6 10 | 92 => me_cV eL X_Md_asked 4 6 10 | 114 => me_cV eL X_Md_settle 2 2 10 | 126 => me_cV eL X_Md_counts 3 7 10 | 136 => me_cV eL X_Md_afterPreaccept 3 8 10 | 148 => me_cV eL X_Md_counts 3 7 10 | 186 => me_cV eL X_Md_finish 5 6 10 | 199 => me_cV eL X_Md_counts 3 7 10 | 223 => me_cV eL X_Md_afterPromise 3 7 10 | _ => fun _ _ _ _ => False, none, 0, 0)
def X_Md_deliver : me_X := (b_Md_deliver, fun i => match i with | 7 => some (10, 3, 1643, 2) | 80 => some (10, 28, 1668, 2) | 108 => some (10, 26, 1666, 0) | _ => none, fun _ => none, fun _ => none, fun _ => none, fun _ => none, fun pc => match pc with | 16 => me_cV eL X_Md_take 2 3 10 | 70 => me_cV eL X_Md_receive 5 7 10 | _ => fun _ _ _ _ => False, none, 0, 1)
def X_Md_propose : me_X := (b_Md_propose, fun i => match i with | 7 => some (10, 3, 1643, 2) | 20 => some (10, 6, 1646, 2) | 35 => some (10, 11, 1651, 2) | 86 => some (10, 0, 1640, 0) | _ => none, fun _ => none, fun _ => none, fun _ => none, fun _ => none, fun pc => match pc with | 106 => me_cV eL X_Md_fit 7 10 10 | 114 => me_cV eL X_Md_start 4 4 10 | 146 => me_cV eL X_Md_send 6 8 10 | _ => fun _ _ _ _ => False, none, 0, 1)
def X_Md_prepare : me_X := (b_Md_prepare, fun i => match i with | 7 => some (10, 3, 1643, 2) | 20 => some (10, 6, 1646, 2) | 35 => some (10, 11, 1651, 2) | 86 => some (10, 0, 1640, 0) | _ => none, fun _ => none, fun _ => none, fun _ => none, fun _ => none, fun pc => match pc with | 3 => me_cV eL X_Md_known 3 3 10 | 82 => me_cV eL X_Md_start 4 4 10 | 91 => me_cV eL X_Md_sendAll 5 6 10 | _ => fun _ _ _ _ => False, none, 0, 1)
def X_Md_crash : me_X := (b_Md_crash, fun i => match i with | 7 => some (10, 3, 1643, 2) | 86 => some (10, 0, 1640, 0) | 90 => some (10, 1, 1641, 0) | _ => none, fun _ => none, fun _ => none, fun _ => none, fun _ => none, fun _ _ _ _ _ => False, none, 0, 2)
def X_Md_reachable : me_X := (b_Md_reachable, fun i => match i with | 20 => some (10, 6, 1646, 2) | 32 => some (10, 10, 1650, 2) | 83 => some (10, 29, 1669, 2) | 93 => some (10, 2, 1642, 0) | _ => none, fun _ => none, fun _ => none, fun _ => none, fun _ => none, fun _ _ _ _ _ => False, none, 0, 0)
def X_Md_component : me_X := (b_Md_component, fun i => match i with | 83 => some (10, 29, 1669, 2) | 93 => some (10, 2, 1642, 0) | _ => none, fun _ => none, fun _ => none, fun _ => none, fun _ => none, fun _ _ _ _ _ => False, none, 0, 1)
def X_Md_ready : me_X := (b_Md_ready, fun i => match i with | 20 => some (10, 6, 1646, 2) | 32 => some (10, 10, 1650, 2) | 93 => some (10, 2, 1642, 0) | _ => none, fun _ => none, fun _ => none, fun _ => none, fun _ => none, fun _ _ _ _ _ => False, none, 0, 2)
def X_Md_next : me_X := (b_Md_next, fun i => match i with | 29 => some (10, 9, 1649, 2) | 93 => some (10, 2, 1642, 0) | _ => none, fun _ => none, fun _ => none, fun _ => none, fun _ => none, fun _ _ _ _ _ => False, none, 0, 1)
def X_Md_act : me_X := (b_Md_act, fun i => match i with | 13 => some (10, 4, 1644, 2) | 17 => some (10, 5, 1645, 2) | 20 => some (10, 6, 1646, 2) | 23 => some (10, 7, 1647, 2) | 26 => some (10, 8, 1648, 2) | 41 => some (10, 13, 1653, 2) | 44 => some (10, 14, 1654, 2) | _ => none, fun _ => none, fun _ => none, fun _ => none, fun _ => none, fun _ _ _ _ _ => False, none, 0, 0)
def X_Md_execute : me_X := (b_Md_execute, fun i => match i with | 7 => some (10, 3, 1643, 2) | 17 => some (10, 5, 1645, 2) | 86 => some (10, 0, 1640, 0) | 93 => some (10, 2, 1642, 0) | _ => none, fun _ => none, fun _ => none, fun _ => none, fun _ => none, fun pc => match pc with | 48 => me_cV eL X_Md_reachable 2 5 10 | 70 => me_cV eL X_Md_component 2 4 10 | 79 => me_cV eL X_Md_ready 3 5 10 | 130 => me_cV eL X_Md_next 3 5 10 | 139 => me_cV eL X_Md_act 3 5 10 | _ => fun _ _ _ _ => False, none, 0, 1)
def X_Md_waiting : me_X := (b_Md_waiting, fun i => match i with | 108 => some (10, 26, 1666, 0) | _ => none, fun _ => none, fun _ => none, fun _ => none, fun _ => none, fun _ _ _ _ _ => False, none, 0, 1)
def X_Md_message : me_X := (b_Md_message, fun i => match i with | 80 => some (10, 28, 1668, 2) | 108 => some (10, 26, 1666, 0) | _ => none, fun _ => none, fun _ => none, fun _ => none, fun _ => none, fun _ _ _ _ _ => False, none, 0, 1)
def X_Md_lost : me_X := (b_Md_lost, fun i => match i with | 111 => some (10, 27, 1667, 0) | _ => none, fun _ => none, fun _ => none, fun _ => none, fun _ => none, fun _ _ _ _ _ => False, none, 0, 1)
def X_Md_named : me_X := (b_Md_named, fun i => match i with | 20 => some (10, 6, 1646, 2) | _ => none, fun _ => none, fun _ => none, fun _ => none, fun _ => none, fun pc => match pc with | 3 => me_cV eL X_Md_known 3 3 10 | _ => fun _ _ _ _ => False, none, 0, 2)
def X_Md_state : me_X := (b_Md_state, fun i => match i with | 20 => some (10, 6, 1646, 2) | _ => none, fun _ => none, fun _ => none, fun _ => none, fun _ => none, fun pc => match pc with | 3 => me_cV eL X_Md_known 3 3 10 | _ => fun _ _ _ _ => False, none, 0, 1)
def X_Md_command : me_X := (b_Md_command, fun i => match i with | 23 => some (10, 7, 1647, 2) | _ => none, fun _ => none, fun _ => none, fun _ => none, fun _ => none, fun pc => match pc with | 3 => me_cV eL X_Md_named 3 3 10 | _ => fun _ _ _ _ => False, none, 0, 1)
def X_Md_seq : me_X := (b_Md_seq, fun i => match i with | 29 => some (10, 9, 1649, 2) | _ => none, fun _ => none, fun _ => none, fun _ => none, fun _ => none, fun pc => match pc with | 3 => me_cV eL X_Md_named 3 3 10 | _ => fun _ _ _ _ => False, none, 0, 1)
def X_Md_deps : me_X := (b_Md_deps, fun i => match i with | 32 => some (10, 10, 1650, 2) | _ => none, fun _ => none, fun _ => none, fun _ => none, fun _ => none, fun pc => match pc with | 3 => me_cV eL X_Md_named 3 3 10 | _ => fun _ _ _ _ => False, none, 0, 1)
def X_Md_promised : me_X := (b_Md_promised, fun i => match i with | 35 => some (10, 11, 1651, 2) | _ => none, fun _ => none, fun _ => none, fun _ => none, fun _ => none, fun pc => match pc with | 3 => me_cV eL X_Md_known 3 3 10 | _ => fun _ _ _ _ => False, none, 0, 1)
def X_Md_over : me_X := (b_Md_over, fun i => match i with | 20 => some (10, 6, 1646, 2) | _ => none, fun _ => none, fun _ => none, fun _ => none, fun _ => none, fun pc => match pc with | 3 => me_cV eL X_Md_known 3 3 10 | _ => fun _ _ _ _ => False, none, 0, 2)
def X_Md_result : me_X := (b_Md_result, fun i => match i with | 44 => some (10, 14, 1654, 2) | _ => none, fun _ => none, fun _ => none, fun _ => none, fun _ => none, fun pc => match pc with | 3 => me_cV eL X_Md_over 3 3 10 | _ => fun _ _ _ _ => False, none, 0, 1)
def X_Md_place : me_X := (b_Md_place, fun i => match i with | 41 => some (10, 13, 1653, 2) | _ => none, fun _ => none, fun _ => none, fun _ => none, fun _ => none, fun pc => match pc with | 3 => me_cV eL X_Md_over 3 3 10 | _ => fun _ _ _ _ => False, none, 0, 1)
def X_Md_value : me_X := (b_Md_value, fun i => match i with | 13 => some (10, 4, 1644, 2) | 86 => some (10, 0, 1640, 0) | _ => none, fun _ => none, fun _ => none, fun _ => none, fun _ => none, fun _ _ _ _ _ => False, none, 0, 1)
def X_Law_cell (bS L : Nat) (xs : Nat → Int32) : me_X := (b_Law_cell, fun _ => none, fun _ => none, fun _ => none, fun _ => none, fun _ => none, fun _ _ _ _ _ => False, some (bS, L, xs), 0, 1)
def X_Law_law (bS L : Nat) (xs : Nat → Int32) : me_X := (b_Law_law, fun _ => none, fun _ => none, fun i => match i with | 7 => some (0, 5) | 18 => some (10, 30) | _ => none, fun _ => none, fun _ => none, fun pc => match pc with | 6 => me_cS eL (X_Law_cell bS L xs) 2 2 | 9 => me_cV eL X_LM_init 2 3 0 | 19 => me_cS eL (X_Law_cell bS L xs) 2 2 | 22 => me_cV eL X_Md_init 2 2 10 | 153 => me_cV eL X_LM_propose 5 7 0 | 185 => me_cV eL X_Md_propose 5 8 10 | 204 => me_cV eL X_LM_prepare 3 5 0 | 218 => me_cV eL X_Md_prepare 3 5 10 | 232 => me_cV eL X_LM_deliver 2 3 0 | 241 => me_cV eL X_Md_deliver 2 3 10 | 255 => me_cV eL X_LM_lose 2 2 0 | 264 => me_cV eL X_Md_lose 2 2 10 | 278 => me_cV eL X_LM_crash 2 3 0 | 287 => me_cV eL X_Md_crash 2 4 10 | 301 => me_cV eL X_LM_execute 2 3 0 | 310 => me_cV eL X_Md_execute 2 8 10 | 319 => me_cV eL X_LM_waiting 1 1 0 | 323 => me_cV eL X_Md_waiting 1 1 10 | 337 => me_cV eL X_LM_message 2 3 0 | 346 => me_cV eL X_Md_message 2 3 10 | 355 => me_cV eL X_LM_lost 1 1 0 | 359 => me_cV eL X_Md_lost 1 1 10 | 378 => me_cV eL X_LM_state 3 4 0 | 392 => me_cV eL X_Md_state 3 3 10 | 411 => me_cV eL X_LM_command 3 4 0 | 425 => me_cV eL X_Md_command 3 3 10 | 444 => me_cV eL X_LM_seq 3 4 0 | 458 => me_cV eL X_Md_seq 3 3 10 | 477 => me_cV eL X_LM_deps 3 4 0 | 491 => me_cV eL X_Md_deps 3 3 10 | 510 => me_cV eL X_LM_promised 3 4 0 | 524 => me_cV eL X_Md_promised 3 3 10 | 543 => me_cV eL X_LM_result 3 4 0 | 557 => me_cV eL X_Md_result 3 3 10 | 576 => me_cV eL X_LM_place 3 4 0 | 590 => me_cV eL X_Md_place 3 3 10 | 609 => me_cV eL X_LM_value 3 3 0 | 623 => me_cV eL X_Md_value 3 3 10 | _ => fun _ _ _ _ => False, some (bS, L, xs), 0, 2)
end
