section
-- ===== PART A: goes FIRST, ahead of the names: the tables' words, and 'selects' of the private methods out of them =====
/-- a private method of a class that the tables say can be made, by its rows of tables_1 -/
def lw_okq (q : MethodName × Nat) : Prop := (q.1.cls ≠ "java/lang/invoke/MethodHandle" ∧ q.1.cls ≠ "java/lang/invoke/VarHandle") ∧ Cond.instantiable q.1.cls q.2 ∈ tables_1 ∧ Cond.privateMethod q.1 ∈ tables_1 ∧ Cond.instanceMethod q.1 ∈ tables_1
theorem lw_p0 : lw_okq (⟨"LeaderlessMap", "workingReplica", "(I)LLeaderlessMap$Replica;"⟩, 5) := ⟨⟨by decide +kernel, by decide +kernel⟩, List.mem_of_getElem? (i := 14) (by decide +kernel), List.mem_of_getElem? (i := 160) (by decide +kernel), List.mem_of_getElem? (i := 161) (by decide +kernel)⟩
theorem lw_p1 : lw_okq (⟨"LeaderlessMap", "isReplica", "(I)Z"⟩, 5) := ⟨⟨by decide +kernel, by decide +kernel⟩, List.mem_of_getElem? (i := 14) (by decide +kernel), List.mem_of_getElem? (i := 164) (by decide +kernel), List.mem_of_getElem? (i := 165) (by decide +kernel)⟩
theorem lw_p2 : lw_okq (⟨"LeaderlessMap", "isKey", "(I)Z"⟩, 5) := ⟨⟨by decide +kernel, by decide +kernel⟩, List.mem_of_getElem? (i := 14) (by decide +kernel), List.mem_of_getElem? (i := 168) (by decide +kernel), List.mem_of_getElem? (i := 169) (by decide +kernel)⟩
theorem lw_p3 : lw_okq (⟨"LeaderlessMap$Replica", "fitted", "(ILLeaderlessMap$Order;)LLeaderlessMap$Order;"⟩, 8) := ⟨⟨by decide +kernel, by decide +kernel⟩, List.mem_of_getElem? (i := 43) (by decide +kernel), List.mem_of_getElem? (i := 226) (by decide +kernel), List.mem_of_getElem? (i := 227) (by decide +kernel)⟩
theorem lw_p4 : lw_okq (⟨"LeaderlessMap", "entryAt", "(II)LLeaderlessMap$Entry;"⟩, 5) := ⟨⟨by decide +kernel, by decide +kernel⟩, List.mem_of_getElem? (i := 14) (by decide +kernel), List.mem_of_getElem? (i := 326) (by decide +kernel), List.mem_of_getElem? (i := 327) (by decide +kernel)⟩
theorem lw_p5 : lw_okq (⟨"LeaderlessMap$Replica", "nextBallot", "(I)I"⟩, 8) := ⟨⟨by decide +kernel, by decide +kernel⟩, List.mem_of_getElem? (i := 43) (by decide +kernel), List.mem_of_getElem? (i := 338) (by decide +kernel), List.mem_of_getElem? (i := 339) (by decide +kernel)⟩
theorem lw_p6 : lw_okq (⟨"LeaderlessMap$Replica", "sendToOthers", "(IIILLeaderlessMap$Order;)V"⟩, 8) := ⟨⟨by decide +kernel, by decide +kernel⟩, List.mem_of_getElem? (i := 43) (by decide +kernel), List.mem_of_getElem? (i := 342) (by decide +kernel), List.mem_of_getElem? (i := 343) (by decide +kernel)⟩
theorem lw_p7 : lw_okq (⟨"LeaderlessMap$Replica", "sendBack", "(LLeaderlessMap$Message;ILLeaderlessMap$Order;LLeaderlessMap$Report;)V"⟩, 8) := ⟨⟨by decide +kernel, by decide +kernel⟩, List.mem_of_getElem? (i := 43) (by decide +kernel), List.mem_of_getElem? (i := 367) (by decide +kernel), List.mem_of_getElem? (i := 368) (by decide +kernel)⟩
theorem lw_p8 : lw_okq (⟨"LeaderlessMap$Replica", "onPreaccept", "(LLeaderlessMap$Message;LLeaderlessMap$Entry;)V"⟩, 8) := ⟨⟨by decide +kernel, by decide +kernel⟩, List.mem_of_getElem? (i := 43) (by decide +kernel), List.mem_of_getElem? (i := 371) (by decide +kernel), List.mem_of_getElem? (i := 372) (by decide +kernel)⟩
theorem lw_p9 : lw_okq (⟨"LeaderlessMap$Replica", "onPreacceptOk", "(LLeaderlessMap$Message;)V"⟩, 8) := ⟨⟨by decide +kernel, by decide +kernel⟩, List.mem_of_getElem? (i := 43) (by decide +kernel), List.mem_of_getElem? (i := 380) (by decide +kernel), List.mem_of_getElem? (i := 381) (by decide +kernel)⟩
theorem lw_p10 : lw_okq (⟨"LeaderlessMap$Replica", "liveAttempt", "(LLeaderlessMap$Message;I)LLeaderlessMap$Attempt;"⟩, 8) := ⟨⟨by decide +kernel, by decide +kernel⟩, List.mem_of_getElem? (i := 43) (by decide +kernel), List.mem_of_getElem? (i := 384) (by decide +kernel), List.mem_of_getElem? (i := 385) (by decide +kernel)⟩
theorem lw_p11 : lw_okq (⟨"LeaderlessMap$Replica", "commitHere", "(ILLeaderlessMap$Order;)V"⟩, 8) := ⟨⟨by decide +kernel, by decide +kernel⟩, List.mem_of_getElem? (i := 43) (by decide +kernel), List.mem_of_getElem? (i := 393) (by decide +kernel), List.mem_of_getElem? (i := 394) (by decide +kernel)⟩
theorem lw_p12 : lw_okq (⟨"LeaderlessMap$Replica", "beginAccepting", "(ILLeaderlessMap$Attempt;LLeaderlessMap$Order;)V"⟩, 8) := ⟨⟨by decide +kernel, by decide +kernel⟩, List.mem_of_getElem? (i := 43) (by decide +kernel), List.mem_of_getElem? (i := 397) (by decide +kernel), List.mem_of_getElem? (i := 398) (by decide +kernel)⟩
theorem lw_p13 : lw_okq (⟨"LeaderlessMap$Replica", "onAccept", "(LLeaderlessMap$Message;LLeaderlessMap$Entry;)V"⟩, 8) := ⟨⟨by decide +kernel, by decide +kernel⟩, List.mem_of_getElem? (i := 43) (by decide +kernel), List.mem_of_getElem? (i := 405) (by decide +kernel), List.mem_of_getElem? (i := 406) (by decide +kernel)⟩
theorem lw_p14 : lw_okq (⟨"LeaderlessMap$Replica", "onAcceptOk", "(LLeaderlessMap$Message;)V"⟩, 8) := ⟨⟨by decide +kernel, by decide +kernel⟩, List.mem_of_getElem? (i := 43) (by decide +kernel), List.mem_of_getElem? (i := 409) (by decide +kernel), List.mem_of_getElem? (i := 410) (by decide +kernel)⟩
theorem lw_p15 : lw_okq (⟨"LeaderlessMap$Replica", "onCommit", "(LLeaderlessMap$Message;LLeaderlessMap$Entry;)V"⟩, 8) := ⟨⟨by decide +kernel, by decide +kernel⟩, List.mem_of_getElem? (i := 43) (by decide +kernel), List.mem_of_getElem? (i := 413) (by decide +kernel), List.mem_of_getElem? (i := 414) (by decide +kernel)⟩
def lw_privs_1 : List (MethodName × Nat) := [(⟨"LeaderlessMap", "workingReplica", "(I)LLeaderlessMap$Replica;"⟩, 5), (⟨"LeaderlessMap", "isReplica", "(I)Z"⟩, 5), (⟨"LeaderlessMap", "isKey", "(I)Z"⟩, 5), (⟨"LeaderlessMap$Replica", "fitted", "(ILLeaderlessMap$Order;)LLeaderlessMap$Order;"⟩, 8), (⟨"LeaderlessMap", "entryAt", "(II)LLeaderlessMap$Entry;"⟩, 5), (⟨"LeaderlessMap$Replica", "nextBallot", "(I)I"⟩, 8), (⟨"LeaderlessMap$Replica", "sendToOthers", "(IIILLeaderlessMap$Order;)V"⟩, 8), (⟨"LeaderlessMap$Replica", "sendBack", "(LLeaderlessMap$Message;ILLeaderlessMap$Order;LLeaderlessMap$Report;)V"⟩, 8), (⟨"LeaderlessMap$Replica", "onPreaccept", "(LLeaderlessMap$Message;LLeaderlessMap$Entry;)V"⟩, 8), (⟨"LeaderlessMap$Replica", "onPreacceptOk", "(LLeaderlessMap$Message;)V"⟩, 8), (⟨"LeaderlessMap$Replica", "liveAttempt", "(LLeaderlessMap$Message;I)LLeaderlessMap$Attempt;"⟩, 8), (⟨"LeaderlessMap$Replica", "commitHere", "(ILLeaderlessMap$Order;)V"⟩, 8), (⟨"LeaderlessMap$Replica", "beginAccepting", "(ILLeaderlessMap$Attempt;LLeaderlessMap$Order;)V"⟩, 8), (⟨"LeaderlessMap$Replica", "onAccept", "(LLeaderlessMap$Message;LLeaderlessMap$Entry;)V"⟩, 8), (⟨"LeaderlessMap$Replica", "onAcceptOk", "(LLeaderlessMap$Message;)V"⟩, 8), (⟨"LeaderlessMap$Replica", "onCommit", "(LLeaderlessMap$Message;LLeaderlessMap$Entry;)V"⟩, 8)]
theorem lw_r1 : ∀ q ∈ lw_privs_1, lw_okq q := List.forall_mem_cons.mpr ⟨lw_p0, List.forall_mem_cons.mpr ⟨lw_p1, List.forall_mem_cons.mpr ⟨lw_p2, List.forall_mem_cons.mpr ⟨lw_p3, List.forall_mem_cons.mpr ⟨lw_p4, List.forall_mem_cons.mpr ⟨lw_p5, List.forall_mem_cons.mpr ⟨lw_p6, List.forall_mem_cons.mpr ⟨lw_p7, List.forall_mem_cons.mpr ⟨lw_p8, List.forall_mem_cons.mpr ⟨lw_p9, List.forall_mem_cons.mpr ⟨lw_p10, List.forall_mem_cons.mpr ⟨lw_p11, List.forall_mem_cons.mpr ⟨lw_p12, List.forall_mem_cons.mpr ⟨lw_p13, List.forall_mem_cons.mpr ⟨lw_p14, List.forall_mem_cons.mpr ⟨lw_p15, fun _ h => absurd h List.not_mem_nil⟩⟩⟩⟩⟩⟩⟩⟩⟩⟩⟩⟩⟩⟩⟩⟩
theorem lw_p16 : lw_okq (⟨"LeaderlessMap$Replica", "onPrepare", "(LLeaderlessMap$Message;LLeaderlessMap$Entry;)V"⟩, 8) := ⟨⟨by decide +kernel, by decide +kernel⟩, List.mem_of_getElem? (i := 43) (by decide +kernel), List.mem_of_getElem? (i := 417) (by decide +kernel), List.mem_of_getElem? (i := 418) (by decide +kernel)⟩
theorem lw_p17 : lw_okq (⟨"LeaderlessMap$Replica", "onPromise", "(LLeaderlessMap$Message;LLeaderlessMap$Entry;)V"⟩, 8) := ⟨⟨by decide +kernel, by decide +kernel⟩, List.mem_of_getElem? (i := 43) (by decide +kernel), List.mem_of_getElem? (i := 444) (by decide +kernel), List.mem_of_getElem? (i := 445) (by decide +kernel)⟩
theorem lw_p18 : lw_okq (⟨"LeaderlessMap$Replica", "finishOpen", "(ILLeaderlessMap$Attempt;)V"⟩, 8) := ⟨⟨by decide +kernel, by decide +kernel⟩, List.mem_of_getElem? (i := 43) (by decide +kernel), List.mem_of_getElem? (i := 452) (by decide +kernel), List.mem_of_getElem? (i := 453) (by decide +kernel)⟩
theorem lw_p19 : lw_okq (⟨"LeaderlessMap$Attempt", "countSharers", "(LLeaderlessMap$Order;I)I"⟩, 8) := ⟨⟨by decide +kernel, by decide +kernel⟩, List.mem_of_getElem? (i := 240) (by decide +kernel), List.mem_of_getElem? (i := 468) (by decide +kernel), List.mem_of_getElem? (i := 469) (by decide +kernel)⟩
theorem lw_p20 : lw_okq (⟨"LeaderlessMap$Replica", "preacceptAgain", "(ILLeaderlessMap$Attempt;LLeaderlessMap$Command;)V"⟩, 8) := ⟨⟨by decide +kernel, by decide +kernel⟩, List.mem_of_getElem? (i := 43) (by decide +kernel), List.mem_of_getElem? (i := 480) (by decide +kernel), List.mem_of_getElem? (i := 481) (by decide +kernel)⟩
theorem lw_p21 : lw_okq (⟨"LeaderlessMap$Store", "findReach", "([LLeaderlessMap$Entry;)V"⟩, 4) := ⟨⟨by decide +kernel, by decide +kernel⟩, List.mem_of_getElem? (i := 91) (by decide +kernel), List.mem_of_getElem? (i := 502) (by decide +kernel), List.mem_of_getElem? (i := 503) (by decide +kernel)⟩
theorem lw_p22 : lw_okq (⟨"LeaderlessMap$Store", "leastReadyComponent", "([LLeaderlessMap$Entry;)I"⟩, 4) := ⟨⟨by decide +kernel, by decide +kernel⟩, List.mem_of_getElem? (i := 91) (by decide +kernel), List.mem_of_getElem? (i := 509) (by decide +kernel), List.mem_of_getElem? (i := 510) (by decide +kernel)⟩
theorem lw_p23 : lw_okq (⟨"LeaderlessMap$Store", "readyComponent", "(I)I"⟩, 4) := ⟨⟨by decide +kernel, by decide +kernel⟩, List.mem_of_getElem? (i := 91) (by decide +kernel), List.mem_of_getElem? (i := 513) (by decide +kernel), List.mem_of_getElem? (i := 514) (by decide +kernel)⟩
theorem lw_p24 : lw_okq (⟨"LeaderlessMap$Store", "runComponent", "([LLeaderlessMap$Entry;I)V"⟩, 4) := ⟨⟨by decide +kernel, by decide +kernel⟩, List.mem_of_getElem? (i := 91) (by decide +kernel), List.mem_of_getElem? (i := 517) (by decide +kernel), List.mem_of_getElem? (i := 518) (by decide +kernel)⟩
theorem lw_p25 : lw_okq (⟨"LeaderlessMap$Store", "leastSeq", "([LLeaderlessMap$Entry;I)I"⟩, 4) := ⟨⟨by decide +kernel, by decide +kernel⟩, List.mem_of_getElem? (i := 91) (by decide +kernel), List.mem_of_getElem? (i := 521) (by decide +kernel), List.mem_of_getElem? (i := 522) (by decide +kernel)⟩
theorem lw_p26 : lw_okq (⟨"LeaderlessMap$Store", "runEntry", "(LLeaderlessMap$Entry;)V"⟩, 4) := ⟨⟨by decide +kernel, by decide +kernel⟩, List.mem_of_getElem? (i := 91) (by decide +kernel), List.mem_of_getElem? (i := 525) (by decide +kernel), List.mem_of_getElem? (i := 526) (by decide +kernel)⟩
theorem lw_p27 : lw_okq (⟨"LeaderlessMap", "orderAt", "(II)LLeaderlessMap$Order;"⟩, 5) := ⟨⟨by decide +kernel, by decide +kernel⟩, List.mem_of_getElem? (i := 14) (by decide +kernel), List.mem_of_getElem? (i := 550) (by decide +kernel), List.mem_of_getElem? (i := 551) (by decide +kernel)⟩
theorem lw_p28 : lw_okq (⟨"LeaderlessMapModel", "take", "(I)V"⟩, 30) := ⟨⟨by decide +kernel, by decide +kernel⟩, List.mem_of_getElem? (i := 585) (by decide +kernel), List.mem_of_getElem? (i := 687) (by decide +kernel), List.mem_of_getElem? (i := 688) (by decide +kernel)⟩
theorem lw_p29 : lw_okq (⟨"LeaderlessMapModel", "receive", "(IIII)V"⟩, 30) := ⟨⟨by decide +kernel, by decide +kernel⟩, List.mem_of_getElem? (i := 585) (by decide +kernel), List.mem_of_getElem? (i := 695) (by decide +kernel), List.mem_of_getElem? (i := 696) (by decide +kernel)⟩
theorem lw_p30 : lw_okq (⟨"LeaderlessMapModel", "send", "(IIIII)V"⟩, 30) := ⟨⟨by decide +kernel, by decide +kernel⟩, List.mem_of_getElem? (i := 585) (by decide +kernel), List.mem_of_getElem? (i := 699) (by decide +kernel), List.mem_of_getElem? (i := 700) (by decide +kernel)⟩
theorem lw_p31 : lw_okq (⟨"LeaderlessMapModel", "preaccept", "(III)V"⟩, 30) := ⟨⟨by decide +kernel, by decide +kernel⟩, List.mem_of_getElem? (i := 585) (by decide +kernel), List.mem_of_getElem? (i := 703) (by decide +kernel), List.mem_of_getElem? (i := 704) (by decide +kernel)⟩
def lw_privs_2 : List (MethodName × Nat) := [(⟨"LeaderlessMap$Replica", "onPrepare", "(LLeaderlessMap$Message;LLeaderlessMap$Entry;)V"⟩, 8), (⟨"LeaderlessMap$Replica", "onPromise", "(LLeaderlessMap$Message;LLeaderlessMap$Entry;)V"⟩, 8), (⟨"LeaderlessMap$Replica", "finishOpen", "(ILLeaderlessMap$Attempt;)V"⟩, 8), (⟨"LeaderlessMap$Attempt", "countSharers", "(LLeaderlessMap$Order;I)I"⟩, 8), (⟨"LeaderlessMap$Replica", "preacceptAgain", "(ILLeaderlessMap$Attempt;LLeaderlessMap$Command;)V"⟩, 8), (⟨"LeaderlessMap$Store", "findReach", "([LLeaderlessMap$Entry;)V"⟩, 4), (⟨"LeaderlessMap$Store", "leastReadyComponent", "([LLeaderlessMap$Entry;)I"⟩, 4), (⟨"LeaderlessMap$Store", "readyComponent", "(I)I"⟩, 4), (⟨"LeaderlessMap$Store", "runComponent", "([LLeaderlessMap$Entry;I)V"⟩, 4), (⟨"LeaderlessMap$Store", "leastSeq", "([LLeaderlessMap$Entry;I)I"⟩, 4), (⟨"LeaderlessMap$Store", "runEntry", "(LLeaderlessMap$Entry;)V"⟩, 4), (⟨"LeaderlessMap", "orderAt", "(II)LLeaderlessMap$Order;"⟩, 5), (⟨"LeaderlessMapModel", "take", "(I)V"⟩, 30), (⟨"LeaderlessMapModel", "receive", "(IIII)V"⟩, 30), (⟨"LeaderlessMapModel", "send", "(IIIII)V"⟩, 30), (⟨"LeaderlessMapModel", "preaccept", "(III)V"⟩, 30)]
theorem lw_r2 : ∀ q ∈ lw_privs_2, lw_okq q := List.forall_mem_cons.mpr ⟨lw_p16, List.forall_mem_cons.mpr ⟨lw_p17, List.forall_mem_cons.mpr ⟨lw_p18, List.forall_mem_cons.mpr ⟨lw_p19, List.forall_mem_cons.mpr ⟨lw_p20, List.forall_mem_cons.mpr ⟨lw_p21, List.forall_mem_cons.mpr ⟨lw_p22, List.forall_mem_cons.mpr ⟨lw_p23, List.forall_mem_cons.mpr ⟨lw_p24, List.forall_mem_cons.mpr ⟨lw_p25, List.forall_mem_cons.mpr ⟨lw_p26, List.forall_mem_cons.mpr ⟨lw_p27, List.forall_mem_cons.mpr ⟨lw_p28, List.forall_mem_cons.mpr ⟨lw_p29, List.forall_mem_cons.mpr ⟨lw_p30, List.forall_mem_cons.mpr ⟨lw_p31, fun _ h => absurd h List.not_mem_nil⟩⟩⟩⟩⟩⟩⟩⟩⟩⟩⟩⟩⟩⟩⟩⟩
theorem lw_p32 : lw_okq (⟨"LeaderlessMapModel", "fit", "(IIIIII)V"⟩, 30) := ⟨⟨by decide +kernel, by decide +kernel⟩, List.mem_of_getElem? (i := 585) (by decide +kernel), List.mem_of_getElem? (i := 707) (by decide +kernel), List.mem_of_getElem? (i := 708) (by decide +kernel)⟩
theorem lw_p33 : lw_okq (⟨"LeaderlessMapModel", "related", "(IIII)Z"⟩, 30) := ⟨⟨by decide +kernel, by decide +kernel⟩, List.mem_of_getElem? (i := 585) (by decide +kernel), List.mem_of_getElem? (i := 711) (by decide +kernel), List.mem_of_getElem? (i := 712) (by decide +kernel)⟩
theorem lw_p34 : lw_okq (⟨"LeaderlessMapModel", "put", "(IIII)V"⟩, 30) := ⟨⟨by decide +kernel, by decide +kernel⟩, List.mem_of_getElem? (i := 585) (by decide +kernel), List.mem_of_getElem? (i := 718) (by decide +kernel), List.mem_of_getElem? (i := 719) (by decide +kernel)⟩
theorem lw_p35 : lw_okq (⟨"LeaderlessMapModel", "accept", "(III)V"⟩, 30) := ⟨⟨by decide +kernel, by decide +kernel⟩, List.mem_of_getElem? (i := 585) (by decide +kernel), List.mem_of_getElem? (i := 722) (by decide +kernel), List.mem_of_getElem? (i := 723) (by decide +kernel)⟩
theorem lw_p36 : lw_okq (⟨"LeaderlessMapModel", "asked", "(III)V"⟩, 30) := ⟨⟨by decide +kernel, by decide +kernel⟩, List.mem_of_getElem? (i := 585) (by decide +kernel), List.mem_of_getElem? (i := 726) (by decide +kernel), List.mem_of_getElem? (i := 727) (by decide +kernel)⟩
theorem lw_p37 : lw_okq (⟨"LeaderlessMapModel", "settle", "(I)V"⟩, 30) := ⟨⟨by decide +kernel, by decide +kernel⟩, List.mem_of_getElem? (i := 585) (by decide +kernel), List.mem_of_getElem? (i := 730) (by decide +kernel), List.mem_of_getElem? (i := 731) (by decide +kernel)⟩
theorem lw_p38 : lw_okq (⟨"LeaderlessMapModel", "counts", "(II)Z"⟩, 30) := ⟨⟨by decide +kernel, by decide +kernel⟩, List.mem_of_getElem? (i := 585) (by decide +kernel), List.mem_of_getElem? (i := 734) (by decide +kernel), List.mem_of_getElem? (i := 735) (by decide +kernel)⟩
theorem lw_p39 : lw_okq (⟨"LeaderlessMapModel", "afterPreaccept", "(II)V"⟩, 30) := ⟨⟨by decide +kernel, by decide +kernel⟩, List.mem_of_getElem? (i := 585) (by decide +kernel), List.mem_of_getElem? (i := 738) (by decide +kernel), List.mem_of_getElem? (i := 739) (by decide +kernel)⟩
theorem lw_p40 : lw_okq (⟨"LeaderlessMapModel", "finish", "(IIII)V"⟩, 30) := ⟨⟨by decide +kernel, by decide +kernel⟩, List.mem_of_getElem? (i := 585) (by decide +kernel), List.mem_of_getElem? (i := 742) (by decide +kernel), List.mem_of_getElem? (i := 743) (by decide +kernel)⟩
theorem lw_p41 : lw_okq (⟨"LeaderlessMapModel", "sendAll", "(IIII)V"⟩, 30) := ⟨⟨by decide +kernel, by decide +kernel⟩, List.mem_of_getElem? (i := 585) (by decide +kernel), List.mem_of_getElem? (i := 746) (by decide +kernel), List.mem_of_getElem? (i := 747) (by decide +kernel)⟩
theorem lw_p42 : lw_okq (⟨"LeaderlessMapModel", "agree", "(IIIIII)V"⟩, 30) := ⟨⟨by decide +kernel, by decide +kernel⟩, List.mem_of_getElem? (i := 585) (by decide +kernel), List.mem_of_getElem? (i := 750) (by decide +kernel), List.mem_of_getElem? (i := 751) (by decide +kernel)⟩
theorem lw_p43 : lw_okq (⟨"LeaderlessMapModel", "start", "(III)V"⟩, 30) := ⟨⟨by decide +kernel, by decide +kernel⟩, List.mem_of_getElem? (i := 585) (by decide +kernel), List.mem_of_getElem? (i := 754) (by decide +kernel), List.mem_of_getElem? (i := 755) (by decide +kernel)⟩
theorem lw_p44 : lw_okq (⟨"LeaderlessMapModel", "afterPromise", "(II)V"⟩, 30) := ⟨⟨by decide +kernel, by decide +kernel⟩, List.mem_of_getElem? (i := 585) (by decide +kernel), List.mem_of_getElem? (i := 758) (by decide +kernel), List.mem_of_getElem? (i := 759) (by decide +kernel)⟩
theorem lw_p45 : lw_okq (⟨"LeaderlessMapModel", "accepted", "(II)I"⟩, 30) := ⟨⟨by decide +kernel, by decide +kernel⟩, List.mem_of_getElem? (i := 585) (by decide +kernel), List.mem_of_getElem? (i := 762) (by decide +kernel), List.mem_of_getElem? (i := 763) (by decide +kernel)⟩
theorem lw_p46 : lw_okq (⟨"LeaderlessMapModel", "common", "(III)I"⟩, 30) := ⟨⟨by decide +kernel, by decide +kernel⟩, List.mem_of_getElem? (i := 585) (by decide +kernel), List.mem_of_getElem? (i := 766) (by decide +kernel), List.mem_of_getElem? (i := 767) (by decide +kernel)⟩
theorem lw_p47 : lw_okq (⟨"LeaderlessMapModel", "plain", "(II)Z"⟩, 30) := ⟨⟨by decide +kernel, by decide +kernel⟩, List.mem_of_getElem? (i := 585) (by decide +kernel), List.mem_of_getElem? (i := 770) (by decide +kernel), List.mem_of_getElem? (i := 771) (by decide +kernel)⟩
def lw_privs_3 : List (MethodName × Nat) := [(⟨"LeaderlessMapModel", "fit", "(IIIIII)V"⟩, 30), (⟨"LeaderlessMapModel", "related", "(IIII)Z"⟩, 30), (⟨"LeaderlessMapModel", "put", "(IIII)V"⟩, 30), (⟨"LeaderlessMapModel", "accept", "(III)V"⟩, 30), (⟨"LeaderlessMapModel", "asked", "(III)V"⟩, 30), (⟨"LeaderlessMapModel", "settle", "(I)V"⟩, 30), (⟨"LeaderlessMapModel", "counts", "(II)Z"⟩, 30), (⟨"LeaderlessMapModel", "afterPreaccept", "(II)V"⟩, 30), (⟨"LeaderlessMapModel", "finish", "(IIII)V"⟩, 30), (⟨"LeaderlessMapModel", "sendAll", "(IIII)V"⟩, 30), (⟨"LeaderlessMapModel", "agree", "(IIIIII)V"⟩, 30), (⟨"LeaderlessMapModel", "start", "(III)V"⟩, 30), (⟨"LeaderlessMapModel", "afterPromise", "(II)V"⟩, 30), (⟨"LeaderlessMapModel", "accepted", "(II)I"⟩, 30), (⟨"LeaderlessMapModel", "common", "(III)I"⟩, 30), (⟨"LeaderlessMapModel", "plain", "(II)Z"⟩, 30)]
theorem lw_r3 : ∀ q ∈ lw_privs_3, lw_okq q := List.forall_mem_cons.mpr ⟨lw_p32, List.forall_mem_cons.mpr ⟨lw_p33, List.forall_mem_cons.mpr ⟨lw_p34, List.forall_mem_cons.mpr ⟨lw_p35, List.forall_mem_cons.mpr ⟨lw_p36, List.forall_mem_cons.mpr ⟨lw_p37, List.forall_mem_cons.mpr ⟨lw_p38, List.forall_mem_cons.mpr ⟨lw_p39, List.forall_mem_cons.mpr ⟨lw_p40, List.forall_mem_cons.mpr ⟨lw_p41, List.forall_mem_cons.mpr ⟨lw_p42, List.forall_mem_cons.mpr ⟨lw_p43, List.forall_mem_cons.mpr ⟨lw_p44, List.forall_mem_cons.mpr ⟨lw_p45, List.forall_mem_cons.mpr ⟨lw_p46, List.forall_mem_cons.mpr ⟨lw_p47, fun _ h => absurd h List.not_mem_nil⟩⟩⟩⟩⟩⟩⟩⟩⟩⟩⟩⟩⟩⟩⟩⟩
theorem lw_p48 : lw_okq (⟨"LeaderlessMapModel", "preaccepted", "(II)I"⟩, 30) := ⟨⟨by decide +kernel, by decide +kernel⟩, List.mem_of_getElem? (i := 585) (by decide +kernel), List.mem_of_getElem? (i := 774) (by decide +kernel), List.mem_of_getElem? (i := 775) (by decide +kernel)⟩
theorem lw_p49 : lw_okq (⟨"LeaderlessMapModel", "known", "(II)Z"⟩, 30) := ⟨⟨by decide +kernel, by decide +kernel⟩, List.mem_of_getElem? (i := 585) (by decide +kernel), List.mem_of_getElem? (i := 786) (by decide +kernel), List.mem_of_getElem? (i := 787) (by decide +kernel)⟩
theorem lw_p50 : lw_okq (⟨"LeaderlessMapModel", "reachable", "(I)V"⟩, 30) := ⟨⟨by decide +kernel, by decide +kernel⟩, List.mem_of_getElem? (i := 585) (by decide +kernel), List.mem_of_getElem? (i := 798) (by decide +kernel), List.mem_of_getElem? (i := 799) (by decide +kernel)⟩
theorem lw_p51 : lw_okq (⟨"LeaderlessMapModel", "component", "(I)I"⟩, 30) := ⟨⟨by decide +kernel, by decide +kernel⟩, List.mem_of_getElem? (i := 585) (by decide +kernel), List.mem_of_getElem? (i := 802) (by decide +kernel), List.mem_of_getElem? (i := 803) (by decide +kernel)⟩
theorem lw_p52 : lw_okq (⟨"LeaderlessMapModel", "ready", "(II)Z"⟩, 30) := ⟨⟨by decide +kernel, by decide +kernel⟩, List.mem_of_getElem? (i := 585) (by decide +kernel), List.mem_of_getElem? (i := 806) (by decide +kernel), List.mem_of_getElem? (i := 807) (by decide +kernel)⟩
theorem lw_p53 : lw_okq (⟨"LeaderlessMapModel", "next", "(II)I"⟩, 30) := ⟨⟨by decide +kernel, by decide +kernel⟩, List.mem_of_getElem? (i := 585) (by decide +kernel), List.mem_of_getElem? (i := 810) (by decide +kernel), List.mem_of_getElem? (i := 811) (by decide +kernel)⟩
theorem lw_p54 : lw_okq (⟨"LeaderlessMapModel", "act", "(II)V"⟩, 30) := ⟨⟨by decide +kernel, by decide +kernel⟩, List.mem_of_getElem? (i := 585) (by decide +kernel), List.mem_of_getElem? (i := 814) (by decide +kernel), List.mem_of_getElem? (i := 815) (by decide +kernel)⟩
theorem lw_p55 : lw_okq (⟨"LeaderlessMapModel", "named", "(II)Z"⟩, 30) := ⟨⟨by decide +kernel, by decide +kernel⟩, List.mem_of_getElem? (i := 585) (by decide +kernel), List.mem_of_getElem? (i := 838) (by decide +kernel), List.mem_of_getElem? (i := 839) (by decide +kernel)⟩
theorem lw_p56 : lw_okq (⟨"LeaderlessMapModel", "over", "(II)Z"⟩, 30) := ⟨⟨by decide +kernel, by decide +kernel⟩, List.mem_of_getElem? (i := 585) (by decide +kernel), List.mem_of_getElem? (i := 858) (by decide +kernel), List.mem_of_getElem? (i := 859) (by decide +kernel)⟩
def lw_privs_4 : List (MethodName × Nat) := [(⟨"LeaderlessMapModel", "preaccepted", "(II)I"⟩, 30), (⟨"LeaderlessMapModel", "known", "(II)Z"⟩, 30), (⟨"LeaderlessMapModel", "reachable", "(I)V"⟩, 30), (⟨"LeaderlessMapModel", "component", "(I)I"⟩, 30), (⟨"LeaderlessMapModel", "ready", "(II)Z"⟩, 30), (⟨"LeaderlessMapModel", "next", "(II)I"⟩, 30), (⟨"LeaderlessMapModel", "act", "(II)V"⟩, 30), (⟨"LeaderlessMapModel", "named", "(II)Z"⟩, 30), (⟨"LeaderlessMapModel", "over", "(II)Z"⟩, 30)]
theorem lw_r4 : ∀ q ∈ lw_privs_4, lw_okq q := List.forall_mem_cons.mpr ⟨lw_p48, List.forall_mem_cons.mpr ⟨lw_p49, List.forall_mem_cons.mpr ⟨lw_p50, List.forall_mem_cons.mpr ⟨lw_p51, List.forall_mem_cons.mpr ⟨lw_p52, List.forall_mem_cons.mpr ⟨lw_p53, List.forall_mem_cons.mpr ⟨lw_p54, List.forall_mem_cons.mpr ⟨lw_p55, List.forall_mem_cons.mpr ⟨lw_p56, fun _ h => absurd h List.not_mem_nil⟩⟩⟩⟩⟩⟩⟩⟩⟩
def lw_privs : List (MethodName × Nat) := lw_privs_1 ++ (lw_privs_2 ++ (lw_privs_3 ++ (lw_privs_4)))
def lw_tbl : List Cond := k2_sels lw_privs ++ tables_1
theorem lw_privs_ok : ∀ q ∈ lw_privs, lw_okq q := by
  show ∀ q ∈ lw_privs_1 ++ (lw_privs_2 ++ (lw_privs_3 ++ (lw_privs_4))), lw_okq q
  exact List.forall_mem_append.mpr ⟨lw_r1, List.forall_mem_append.mpr ⟨lw_r2, List.forall_mem_append.mpr ⟨lw_r3, lw_r4⟩⟩⟩
end
section
/-! names: classes, their fields, methods and their code -/
def R_LM : String := "LeaderlessMap"
def F_LM : u_T := fun k => match k with
  | 0 => ("LeaderlessMap", "size", "I", true)
  | 1 => ("LeaderlessMap", "faults", "I", true)
  | 2 => ("LeaderlessMap", "network", "LLeaderlessMap$Network;", true)
  | 3 => ("LeaderlessMap", "replicas", "[LLeaderlessMap$Replica;", true)
  | _ => ("LeaderlessMap", "crashes", "I", false)
def t_LM : Nat → FieldType := fun k => match k with
  | 0 => .int
  | 1 => .int
  | 2 => (.object "LeaderlessMap$Network")
  | 3 => (.array (.object "LeaderlessMap$Replica"))
  | _ => .int
theorem n_LM : ∀ a, a < 5 → ∀ b, b < 5 → a ≠ b → (F_LM a).2.1 ≠ (F_LM b).2.1 := by decide +kernel
theorem t_LM_ok : ∀ k, k < 5 → parseFieldDescriptor (F_LM k).2.2.1 = some (t_LM k) := by decide +kernel
def R_Net : String := "LeaderlessMap$Network"
def F_Net : u_T := fun k => match k with
  | 0 => ("LeaderlessMap$Network", "line", "[LLeaderlessMap$Message;", true)
  | 1 => ("LeaderlessMap$Network", "underWay", "I", false)
  | _ => ("LeaderlessMap$Network", "dropped", "I", false)
def t_Net : Nat → FieldType := fun k => match k with
  | 0 => (.array (.object "LeaderlessMap$Message"))
  | 1 => .int
  | _ => .int
theorem n_Net : ∀ a, a < 3 → ∀ b, b < 3 → a ≠ b → (F_Net a).2.1 ≠ (F_Net b).2.1 := by decide +kernel
theorem t_Net_ok : ∀ k, k < 3 → parseFieldDescriptor (F_Net k).2.2.1 = some (t_Net k) := by decide +kernel
def R_Rp : String := "LeaderlessMap$Replica"
def F_Rp : u_T := fun k => match k with
  | 0 => ("LeaderlessMap$Replica", "number", "I", true)
  | 1 => ("LeaderlessMap$Replica", "size", "I", true)
  | 2 => ("LeaderlessMap$Replica", "faults", "I", true)
  | 3 => ("LeaderlessMap$Replica", "network", "LLeaderlessMap$Network;", true)
  | 4 => ("LeaderlessMap$Replica", "entries", "[LLeaderlessMap$Entry;", true)
  | 5 => ("LeaderlessMap$Replica", "attempts", "[LLeaderlessMap$Attempt;", true)
  | 6 => ("LeaderlessMap$Replica", "store", "LLeaderlessMap$Store;", true)
  | _ => ("LeaderlessMap$Replica", "crashed", "Z", false)
def t_Rp : Nat → FieldType := fun k => match k with
  | 0 => .int
  | 1 => .int
  | 2 => .int
  | 3 => (.object "LeaderlessMap$Network")
  | 4 => (.array (.object "LeaderlessMap$Entry"))
  | 5 => (.array (.object "LeaderlessMap$Attempt"))
  | 6 => (.object "LeaderlessMap$Store")
  | _ => .boolean
theorem n_Rp : ∀ a, a < 8 → ∀ b, b < 8 → a ≠ b → (F_Rp a).2.1 ≠ (F_Rp b).2.1 := by decide +kernel
theorem t_Rp_ok : ∀ k, k < 8 → parseFieldDescriptor (F_Rp k).2.2.1 = some (t_Rp k) := by decide +kernel
def R_En : String := "LeaderlessMap$Entry"
def F_En : u_T := fun k => match k with
  | 0 => ("LeaderlessMap$Entry", "state", "I", false)
  | 1 => ("LeaderlessMap$Entry", "order", "LLeaderlessMap$Order;", false)
  | 2 => ("LeaderlessMap$Entry", "promised", "I", false)
  | 3 => ("LeaderlessMap$Entry", "voted", "I", false)
  | 4 => ("LeaderlessMap$Entry", "result", "I", false)
  | _ => ("LeaderlessMap$Entry", "place", "I", false)
def t_En : Nat → FieldType := fun k => match k with
  | 0 => .int
  | 1 => (.object "LeaderlessMap$Order")
  | 2 => .int
  | 3 => .int
  | 4 => .int
  | _ => .int
theorem n_En : ∀ a, a < 6 → ∀ b, b < 6 → a ≠ b → (F_En a).2.1 ≠ (F_En b).2.1 := by decide +kernel
theorem t_En_ok : ∀ k, k < 6 → parseFieldDescriptor (F_En k).2.2.1 = some (t_En k) := by decide +kernel
def R_Sto : String := "LeaderlessMap$Store"
def F_Sto : u_T := fun k => match k with
  | 0 => ("LeaderlessMap$Store", "values", "[I", true)
  | 1 => ("LeaderlessMap$Store", "reach", "[I", true)
  | 2 => ("LeaderlessMap$Store", "executedSet", "I", false)
  | _ => ("LeaderlessMap$Store", "executedCount", "I", false)
def t_Sto : Nat → FieldType := fun k => match k with
  | 0 => (.array .int)
  | 1 => (.array .int)
  | 2 => .int
  | _ => .int
theorem n_Sto : ∀ a, a < 4 → ∀ b, b < 4 → a ≠ b → (F_Sto a).2.1 ≠ (F_Sto b).2.1 := by decide +kernel
theorem t_Sto_ok : ∀ k, k < 4 → parseFieldDescriptor (F_Sto k).2.2.1 = some (t_Sto k) := by decide +kernel
def R_At : String := "LeaderlessMap$Attempt"
def F_At : u_T := fun k => match k with
  | 0 => ("LeaderlessMap$Attempt", "ballot", "I", true)
  | 1 => ("LeaderlessMap$Attempt", "fast", "Z", true)
  | 2 => ("LeaderlessMap$Attempt", "reports", "[LLeaderlessMap$Report;", true)
  | 3 => ("LeaderlessMap$Attempt", "phase", "I", false)
  | 4 => ("LeaderlessMap$Attempt", "replies", "I", false)
  | 5 => ("LeaderlessMap$Attempt", "agreed", "Z", false)
  | 6 => ("LeaderlessMap$Attempt", "greatestSeq", "I", false)
  | _ => ("LeaderlessMap$Attempt", "allDeps", "I", false)
def t_At : Nat → FieldType := fun k => match k with
  | 0 => .int
  | 1 => .boolean
  | 2 => (.array (.object "LeaderlessMap$Report"))
  | 3 => .int
  | 4 => .int
  | 5 => .boolean
  | 6 => .int
  | _ => .int
theorem n_At : ∀ a, a < 8 → ∀ b, b < 8 → a ≠ b → (F_At a).2.1 ≠ (F_At b).2.1 := by decide +kernel
theorem t_At_ok : ∀ k, k < 8 → parseFieldDescriptor (F_At k).2.2.1 = some (t_At k) := by decide +kernel
def R_Cmd : String := "LeaderlessMap$Command"
def F_Cmd : u_T := fun k => match k with
  | 0 => ("LeaderlessMap$Command", "kind", "I", true)
  | 1 => ("LeaderlessMap$Command", "key", "I", true)
  | _ => ("LeaderlessMap$Command", "newValue", "I", true)
def t_Cmd : Nat → FieldType := fun k => match k with
  | 0 => .int
  | 1 => .int
  | _ => .int
theorem n_Cmd : ∀ a, a < 3 → ∀ b, b < 3 → a ≠ b → (F_Cmd a).2.1 ≠ (F_Cmd b).2.1 := by decide +kernel
theorem t_Cmd_ok : ∀ k, k < 3 → parseFieldDescriptor (F_Cmd k).2.2.1 = some (t_Cmd k) := by decide +kernel
def R_Or : String := "LeaderlessMap$Order"
def F_Or : u_T := fun k => match k with
  | 0 => ("LeaderlessMap$Order", "command", "LLeaderlessMap$Command;", true)
  | 1 => ("LeaderlessMap$Order", "seq", "I", true)
  | _ => ("LeaderlessMap$Order", "deps", "I", true)
def t_Or : Nat → FieldType := fun k => match k with
  | 0 => (.object "LeaderlessMap$Command")
  | 1 => .int
  | _ => .int
theorem n_Or : ∀ a, a < 3 → ∀ b, b < 3 → a ≠ b → (F_Or a).2.1 ≠ (F_Or b).2.1 := by decide +kernel
theorem t_Or_ok : ∀ k, k < 3 → parseFieldDescriptor (F_Or k).2.2.1 = some (t_Or k) := by decide +kernel
def R_Rt : String := "LeaderlessMap$Report"
def F_Rt : u_T := fun k => match k with
  | 0 => ("LeaderlessMap$Report", "sender", "I", true)
  | 1 => ("LeaderlessMap$Report", "state", "I", true)
  | 2 => ("LeaderlessMap$Report", "order", "LLeaderlessMap$Order;", true)
  | _ => ("LeaderlessMap$Report", "voted", "I", true)
def t_Rt : Nat → FieldType := fun k => match k with
  | 0 => .int
  | 1 => .int
  | 2 => (.object "LeaderlessMap$Order")
  | _ => .int
theorem n_Rt : ∀ a, a < 4 → ∀ b, b < 4 → a ≠ b → (F_Rt a).2.1 ≠ (F_Rt b).2.1 := by decide +kernel
theorem t_Rt_ok : ∀ k, k < 4 → parseFieldDescriptor (F_Rt k).2.2.1 = some (t_Rt k) := by decide +kernel
def R_Ms : String := "LeaderlessMap$Message"
def F_Ms : u_T := fun k => match k with
  | 0 => ("LeaderlessMap$Message", "kind", "I", true)
  | 1 => ("LeaderlessMap$Message", "sender", "I", true)
  | 2 => ("LeaderlessMap$Message", "receiver", "I", true)
  | 3 => ("LeaderlessMap$Message", "instance", "I", true)
  | 4 => ("LeaderlessMap$Message", "ballot", "I", true)
  | 5 => ("LeaderlessMap$Message", "order", "LLeaderlessMap$Order;", true)
  | _ => ("LeaderlessMap$Message", "report", "LLeaderlessMap$Report;", true)
def t_Ms : Nat → FieldType := fun k => match k with
  | 0 => .int
  | 1 => .int
  | 2 => .int
  | 3 => .int
  | 4 => .int
  | 5 => (.object "LeaderlessMap$Order")
  | _ => (.object "LeaderlessMap$Report")
theorem n_Ms : ∀ a, a < 7 → ∀ b, b < 7 → a ≠ b → (F_Ms a).2.1 ≠ (F_Ms b).2.1 := by decide +kernel
theorem t_Ms_ok : ∀ k, k < 7 → parseFieldDescriptor (F_Ms k).2.2.1 = some (t_Ms k) := by decide +kernel
def R_Md : String := "LeaderlessMapModel"
def F_Md : u_T := fun k => match k with
  | 0 => ("LeaderlessMapModel", "n", "I", false)
  | 1 => ("LeaderlessMapModel", "f", "I", false)
  | 2 => ("LeaderlessMapModel", "instances", "I", false)
  | 3 => ("LeaderlessMapModel", "crashed", "[Z", true)
  | 4 => ("LeaderlessMapModel", "map", "[I", true)
  | 5 => ("LeaderlessMapModel", "done", "[I", true)
  | 6 => ("LeaderlessMapModel", "state", "[I", true)
  | 7 => ("LeaderlessMapModel", "command", "[I", true)
  | 8 => ("LeaderlessMapModel", "input", "[I", true)
  | 9 => ("LeaderlessMapModel", "seq", "[I", true)
  | 10 => ("LeaderlessMapModel", "deps", "[I", true)
  | 11 => ("LeaderlessMapModel", "promised", "[I", true)
  | 12 => ("LeaderlessMapModel", "voted", "[I", true)
  | 13 => ("LeaderlessMapModel", "place", "[I", true)
  | 14 => ("LeaderlessMapModel", "result", "[I", true)
  | 15 => ("LeaderlessMapModel", "tries", "[Z", true)
  | 16 => ("LeaderlessMapModel", "phase", "[I", true)
  | 17 => ("LeaderlessMapModel", "ballot", "[I", true)
  | 18 => ("LeaderlessMapModel", "count", "[I", true)
  | 19 => ("LeaderlessMapModel", "rFrom", "[I", true)
  | 20 => ("LeaderlessMapModel", "rState", "[I", true)
  | 21 => ("LeaderlessMapModel", "rCommand", "[I", true)
  | 22 => ("LeaderlessMapModel", "rInput", "[I", true)
  | 23 => ("LeaderlessMapModel", "rSeq", "[I", true)
  | 24 => ("LeaderlessMapModel", "rDeps", "[I", true)
  | 25 => ("LeaderlessMapModel", "rVoted", "[I", true)
  | 26 => ("LeaderlessMapModel", "under", "I", false)
  | 27 => ("LeaderlessMapModel", "losses", "I", false)
  | 28 => ("LeaderlessMapModel", "mail", "[I", true)
  | _ => ("LeaderlessMapModel", "reach", "[I", true)
def t_Md : Nat → FieldType := fun k => match k with
  | 0 => .int
  | 1 => .int
  | 2 => .int
  | 3 => (.array .boolean)
  | 4 => (.array .int)
  | 5 => (.array .int)
  | 6 => (.array .int)
  | 7 => (.array .int)
  | 8 => (.array .int)
  | 9 => (.array .int)
  | 10 => (.array .int)
  | 11 => (.array .int)
  | 12 => (.array .int)
  | 13 => (.array .int)
  | 14 => (.array .int)
  | 15 => (.array .boolean)
  | 16 => (.array .int)
  | 17 => (.array .int)
  | 18 => (.array .int)
  | 19 => (.array .int)
  | 20 => (.array .int)
  | 21 => (.array .int)
  | 22 => (.array .int)
  | 23 => (.array .int)
  | 24 => (.array .int)
  | 25 => (.array .int)
  | 26 => .int
  | 27 => .int
  | 28 => (.array .int)
  | _ => (.array .int)
theorem n_Md : ∀ a, a < 30 → ∀ b, b < 30 → a ≠ b → (F_Md a).2.1 ≠ (F_Md b).2.1 := by decide +kernel
theorem t_Md_ok : ∀ k, k < 30 → parseFieldDescriptor (F_Md k).2.2.1 = some (t_Md k) := by decide +kernel
def me_cls : List vw_C := [(R_LM, F_LM, 5), (R_Net, F_Net, 3), (R_Rp, F_Rp, 8), (R_En, F_En, 6), (R_Sto, F_Sto, 4), (R_At, F_At, 8), (R_Cmd, F_Cmd, 3), (R_Or, F_Or, 3), (R_Rt, F_Rt, 4), (R_Ms, F_Ms, 7), (R_Md, F_Md, 30)]
abbrev b_Net_init : ByteArray := prog_6_method_1_code
def y_Net_init : MethodName := ⟨"LeaderlessMap$Network", "<init>", "()V"⟩
abbrev b_En_init : ByteArray := prog_4_method_1_code
def y_En_init : MethodName := ⟨"LeaderlessMap$Entry", "<init>", "()V"⟩
abbrev b_Sto_init : ByteArray := prog_10_method_1_code
def y_Sto_init : MethodName := ⟨"LeaderlessMap$Store", "<init>", "(I)V"⟩
abbrev b_Rp_init : ByteArray := prog_8_method_1_code
def y_Rp_init : MethodName := ⟨"LeaderlessMap$Replica", "<init>", "(IILLeaderlessMap$Network;)V"⟩
abbrev b_LM_init : ByteArray := prog_1_method_1_code
def y_LM_init : MethodName := ⟨"LeaderlessMap", "<init>", "(I)V"⟩
abbrev b_LM_isReplica : ByteArray := prog_1_method_19_code
def y_LM_isReplica : MethodName := ⟨"LeaderlessMap", "isReplica", "(I)Z"⟩
abbrev b_LM_workingReplica : ByteArray := prog_1_method_21_code
def y_LM_workingReplica : MethodName := ⟨"LeaderlessMap", "workingReplica", "(I)LLeaderlessMap$Replica;"⟩
abbrev b_LM_isKey : ByteArray := prog_1_method_20_code
def y_LM_isKey : MethodName := ⟨"LeaderlessMap", "isKey", "(I)Z"⟩
abbrev b_Rp_freeInstance : ByteArray := prog_8_method_2_code
def y_Rp_freeInstance : MethodName := ⟨"LeaderlessMap$Replica", "freeInstance", "()I"⟩
abbrev b_Cmd_init : ByteArray := prog_3_method_1_code
def y_Cmd_init : MethodName := ⟨"LeaderlessMap$Command", "<init>", "(III)V"⟩
abbrev b_Or_init : ByteArray := prog_7_method_1_code
def y_Or_init : MethodName := ⟨"LeaderlessMap$Order", "<init>", "(LLeaderlessMap$Command;II)V"⟩
abbrev b_Cmd_interferesWith : ByteArray := prog_3_method_2_code
def y_Cmd_interferesWith : MethodName := ⟨"LeaderlessMap$Command", "interferesWith", "(LLeaderlessMap$Command;)Z"⟩
abbrev b_Rp_fitted : ByteArray := prog_8_method_18_code
def y_Rp_fitted : MethodName := ⟨"LeaderlessMap$Replica", "fitted", "(ILLeaderlessMap$Order;)LLeaderlessMap$Order;"⟩
abbrev b_En_become : ByteArray := prog_4_method_3_code
def y_En_become : MethodName := ⟨"LeaderlessMap$Entry", "become", "(ILLeaderlessMap$Order;)V"⟩
abbrev b_At_init : ByteArray := prog_2_method_1_code
def y_At_init : MethodName := ⟨"LeaderlessMap$Attempt", "<init>", "(IIZI)V"⟩
abbrev b_Ms_init : ByteArray := prog_5_method_1_code
def y_Ms_init : MethodName := ⟨"LeaderlessMap$Message", "<init>", "(IIIIILLeaderlessMap$Order;LLeaderlessMap$Report;)V"⟩
abbrev b_Net_send : ByteArray := prog_6_method_2_code
def y_Net_send : MethodName := ⟨"LeaderlessMap$Network", "send", "(LLeaderlessMap$Message;)V"⟩
abbrev b_Rp_startCommand : ByteArray := prog_8_method_3_code
def y_Rp_startCommand : MethodName := ⟨"LeaderlessMap$Replica", "startCommand", "(ILLeaderlessMap$Command;)V"⟩
abbrev b_LM_propose : ByteArray := prog_1_method_2_code
def y_LM_propose : MethodName := ⟨"LeaderlessMap", "propose", "(IIZI)I"⟩
abbrev b_LM_entryAt : ByteArray := prog_1_method_22_code
def y_LM_entryAt : MethodName := ⟨"LeaderlessMap", "entryAt", "(II)LLeaderlessMap$Entry;"⟩
abbrev b_En_isSettled : ByteArray := prog_4_method_2_code
def y_En_isSettled : MethodName := ⟨"LeaderlessMap$Entry", "isSettled", "()Z"⟩
abbrev b_Rp_nextBallot : ByteArray := prog_8_method_19_code
def y_Rp_nextBallot : MethodName := ⟨"LeaderlessMap$Replica", "nextBallot", "(I)I"⟩
abbrev b_Rp_sendToOthers : ByteArray := prog_8_method_21_code
def y_Rp_sendToOthers : MethodName := ⟨"LeaderlessMap$Replica", "sendToOthers", "(IIILLeaderlessMap$Order;)V"⟩
abbrev b_Rp_startPreparing : ByteArray := prog_8_method_4_code
def y_Rp_startPreparing : MethodName := ⟨"LeaderlessMap$Replica", "startPreparing", "(I)I"⟩
abbrev b_LM_prepare : ByteArray := prog_1_method_3_code
def y_LM_prepare : MethodName := ⟨"LeaderlessMap", "prepare", "(II)I"⟩
abbrev b_Net_at : ByteArray := prog_6_method_3_code
def y_Net_at : MethodName := ⟨"LeaderlessMap$Network", "at", "(I)LLeaderlessMap$Message;"⟩
abbrev b_Net_take : ByteArray := prog_6_method_4_code
def y_Net_take : MethodName := ⟨"LeaderlessMap$Network", "take", "(I)LLeaderlessMap$Message;"⟩
abbrev b_Ms_asksForVote : ByteArray := prog_5_method_2_code
def y_Ms_asksForVote : MethodName := ⟨"LeaderlessMap$Message", "asksForVote", "()Z"⟩
abbrev b_Rp_sendBack : ByteArray := prog_8_method_20_code
def y_Rp_sendBack : MethodName := ⟨"LeaderlessMap$Replica", "sendBack", "(LLeaderlessMap$Message;ILLeaderlessMap$Order;LLeaderlessMap$Report;)V"⟩
abbrev b_En_vote : ByteArray := prog_4_method_4_code
def y_En_vote : MethodName := ⟨"LeaderlessMap$Entry", "vote", "(ILLeaderlessMap$Order;I)V"⟩
abbrev b_Rp_onPreaccept : ByteArray := prog_8_method_6_code
def y_Rp_onPreaccept : MethodName := ⟨"LeaderlessMap$Replica", "onPreaccept", "(LLeaderlessMap$Message;LLeaderlessMap$Entry;)V"⟩
abbrev b_Rp_liveAttempt : ByteArray := prog_8_method_17_code
def y_Rp_liveAttempt : MethodName := ⟨"LeaderlessMap$Replica", "liveAttempt", "(LLeaderlessMap$Message;I)LLeaderlessMap$Attempt;"⟩
abbrev b_At_countOrder : ByteArray := prog_2_method_3_code
def y_At_countOrder : MethodName := ⟨"LeaderlessMap$Attempt", "countOrder", "(LLeaderlessMap$Order;)V"⟩
abbrev b_Rp_commitHere : ByteArray := prog_8_method_16_code
def y_Rp_commitHere : MethodName := ⟨"LeaderlessMap$Replica", "commitHere", "(ILLeaderlessMap$Order;)V"⟩
abbrev b_At_enterPhase : ByteArray := prog_2_method_2_code
def y_At_enterPhase : MethodName := ⟨"LeaderlessMap$Attempt", "enterPhase", "(I)V"⟩
abbrev b_Rp_beginAccepting : ByteArray := prog_8_method_15_code
def y_Rp_beginAccepting : MethodName := ⟨"LeaderlessMap$Replica", "beginAccepting", "(ILLeaderlessMap$Attempt;LLeaderlessMap$Order;)V"⟩
abbrev b_Rp_onPreacceptOk : ByteArray := prog_8_method_7_code
def y_Rp_onPreacceptOk : MethodName := ⟨"LeaderlessMap$Replica", "onPreacceptOk", "(LLeaderlessMap$Message;)V"⟩
abbrev b_Rp_onAccept : ByteArray := prog_8_method_8_code
def y_Rp_onAccept : MethodName := ⟨"LeaderlessMap$Replica", "onAccept", "(LLeaderlessMap$Message;LLeaderlessMap$Entry;)V"⟩
abbrev b_Rp_onAcceptOk : ByteArray := prog_8_method_9_code
def y_Rp_onAcceptOk : MethodName := ⟨"LeaderlessMap$Replica", "onAcceptOk", "(LLeaderlessMap$Message;)V"⟩
abbrev b_Rp_onCommit : ByteArray := prog_8_method_10_code
def y_Rp_onCommit : MethodName := ⟨"LeaderlessMap$Replica", "onCommit", "(LLeaderlessMap$Message;LLeaderlessMap$Entry;)V"⟩
abbrev b_Rt_init : ByteArray := prog_9_method_1_code
def y_Rt_init : MethodName := ⟨"LeaderlessMap$Report", "<init>", "(ILLeaderlessMap$Entry;)V"⟩
abbrev b_Rp_onPrepare : ByteArray := prog_8_method_11_code
def y_Rp_onPrepare : MethodName := ⟨"LeaderlessMap$Replica", "onPrepare", "(LLeaderlessMap$Message;LLeaderlessMap$Entry;)V"⟩
abbrev b_At_countReport : ByteArray := prog_2_method_4_code
def y_At_countReport : MethodName := ⟨"LeaderlessMap$Attempt", "countReport", "(LLeaderlessMap$Report;)V"⟩
abbrev b_At_lastAccepted : ByteArray := prog_2_method_5_code
def y_At_lastAccepted : MethodName := ⟨"LeaderlessMap$Attempt", "lastAccepted", "()LLeaderlessMap$Report;"⟩
abbrev b_Rt_isFastVote : ByteArray := prog_9_method_2_code
def y_Rt_isFastVote : MethodName := ⟨"LeaderlessMap$Report", "isFastVote", "(I)Z"⟩
abbrev b_Or_agreesWith : ByteArray := prog_7_method_2_code
def y_Or_agreesWith : MethodName := ⟨"LeaderlessMap$Order", "agreesWith", "(LLeaderlessMap$Order;)Z"⟩
abbrev b_At_countSharers : ByteArray := prog_2_method_8_code
def y_At_countSharers : MethodName := ⟨"LeaderlessMap$Attempt", "countSharers", "(LLeaderlessMap$Order;I)I"⟩
abbrev b_At_sharedFastVote : ByteArray := prog_2_method_7_code
def y_At_sharedFastVote : MethodName := ⟨"LeaderlessMap$Attempt", "sharedFastVote", "(II)LLeaderlessMap$Report;"⟩
abbrev b_At_firstPreaccepted : ByteArray := prog_2_method_6_code
def y_At_firstPreaccepted : MethodName := ⟨"LeaderlessMap$Attempt", "firstPreaccepted", "()LLeaderlessMap$Report;"⟩
abbrev b_Rp_preacceptAgain : ByteArray := prog_8_method_14_code
def y_Rp_preacceptAgain : MethodName := ⟨"LeaderlessMap$Replica", "preacceptAgain", "(ILLeaderlessMap$Attempt;LLeaderlessMap$Command;)V"⟩
abbrev b_Rp_finishOpen : ByteArray := prog_8_method_13_code
def y_Rp_finishOpen : MethodName := ⟨"LeaderlessMap$Replica", "finishOpen", "(ILLeaderlessMap$Attempt;)V"⟩
abbrev b_Rp_onPromise : ByteArray := prog_8_method_12_code
def y_Rp_onPromise : MethodName := ⟨"LeaderlessMap$Replica", "onPromise", "(LLeaderlessMap$Message;LLeaderlessMap$Entry;)V"⟩
abbrev b_Rp_receive : ByteArray := prog_8_method_5_code
def y_Rp_receive : MethodName := ⟨"LeaderlessMap$Replica", "receive", "(LLeaderlessMap$Message;)V"⟩
abbrev b_LM_deliver : ByteArray := prog_1_method_4_code
def y_LM_deliver : MethodName := ⟨"LeaderlessMap", "deliver", "(I)I"⟩
abbrev b_LM_lose : ByteArray := prog_1_method_5_code
def y_LM_lose : MethodName := ⟨"LeaderlessMap", "lose", "(I)Z"⟩
abbrev b_LM_crash : ByteArray := prog_1_method_6_code
def y_LM_crash : MethodName := ⟨"LeaderlessMap", "crash", "(I)Z"⟩
abbrev b_Sto_contains : ByteArray := prog_10_method_9_code
def y_Sto_contains : MethodName := ⟨"LeaderlessMap$Store", "contains", "(II)Z"⟩
abbrev b_Sto_findReach : ByteArray := prog_10_method_3_code
def y_Sto_findReach : MethodName := ⟨"LeaderlessMap$Store", "findReach", "([LLeaderlessMap$Entry;)V"⟩
abbrev b_Sto_readyComponent : ByteArray := prog_10_method_5_code
def y_Sto_readyComponent : MethodName := ⟨"LeaderlessMap$Store", "readyComponent", "(I)I"⟩
abbrev b_Sto_leastReadyComponent : ByteArray := prog_10_method_4_code
def y_Sto_leastReadyComponent : MethodName := ⟨"LeaderlessMap$Store", "leastReadyComponent", "([LLeaderlessMap$Entry;)I"⟩
abbrev b_Sto_leastSeq : ByteArray := prog_10_method_7_code
def y_Sto_leastSeq : MethodName := ⟨"LeaderlessMap$Store", "leastSeq", "([LLeaderlessMap$Entry;I)I"⟩
abbrev b_Sto_runEntry : ByteArray := prog_10_method_8_code
def y_Sto_runEntry : MethodName := ⟨"LeaderlessMap$Store", "runEntry", "(LLeaderlessMap$Entry;)V"⟩
abbrev b_Sto_runComponent : ByteArray := prog_10_method_6_code
def y_Sto_runComponent : MethodName := ⟨"LeaderlessMap$Store", "runComponent", "([LLeaderlessMap$Entry;I)V"⟩
abbrev b_Sto_runReady : ByteArray := prog_10_method_2_code
def y_Sto_runReady : MethodName := ⟨"LeaderlessMap$Store", "runReady", "([LLeaderlessMap$Entry;)I"⟩
abbrev b_LM_execute : ByteArray := prog_1_method_7_code
def y_LM_execute : MethodName := ⟨"LeaderlessMap", "execute", "(I)I"⟩
abbrev b_LM_waiting : ByteArray := prog_1_method_8_code
def y_LM_waiting : MethodName := ⟨"LeaderlessMap", "waiting", "()I"⟩
abbrev b_LM_message : ByteArray := prog_1_method_9_code
def y_LM_message : MethodName := ⟨"LeaderlessMap", "message", "(I)I"⟩
abbrev b_LM_lost : ByteArray := prog_1_method_10_code
def y_LM_lost : MethodName := ⟨"LeaderlessMap", "lost", "()I"⟩
abbrev b_LM_state : ByteArray := prog_1_method_11_code
def y_LM_state : MethodName := ⟨"LeaderlessMap", "state", "(II)I"⟩
abbrev b_LM_orderAt : ByteArray := prog_1_method_23_code
def y_LM_orderAt : MethodName := ⟨"LeaderlessMap", "orderAt", "(II)LLeaderlessMap$Order;"⟩
abbrev b_Cmd_code : ByteArray := prog_3_method_3_code
def y_Cmd_code : MethodName := ⟨"LeaderlessMap$Command", "code", "()I"⟩
abbrev b_LM_command : ByteArray := prog_1_method_12_code
def y_LM_command : MethodName := ⟨"LeaderlessMap", "command", "(II)I"⟩
abbrev b_LM_seq : ByteArray := prog_1_method_13_code
def y_LM_seq : MethodName := ⟨"LeaderlessMap", "seq", "(II)I"⟩
abbrev b_LM_deps : ByteArray := prog_1_method_14_code
def y_LM_deps : MethodName := ⟨"LeaderlessMap", "deps", "(II)I"⟩
abbrev b_LM_promised : ByteArray := prog_1_method_15_code
def y_LM_promised : MethodName := ⟨"LeaderlessMap", "promised", "(II)I"⟩
abbrev b_LM_result : ByteArray := prog_1_method_16_code
def y_LM_result : MethodName := ⟨"LeaderlessMap", "result", "(II)I"⟩
abbrev b_LM_place : ByteArray := prog_1_method_17_code
def y_LM_place : MethodName := ⟨"LeaderlessMap", "place", "(II)I"⟩
abbrev b_LM_value : ByteArray := prog_1_method_18_code
def y_LM_value : MethodName := ⟨"LeaderlessMap", "value", "(II)I"⟩
abbrev b_Md_init : ByteArray := prog_12_method_1_code
def y_Md_init : MethodName := ⟨"LeaderlessMapModel", "<init>", "(I)V"⟩
abbrev b_Md_known : ByteArray := prog_12_method_2_code
def y_Md_known : MethodName := ⟨"LeaderlessMapModel", "known", "(II)Z"⟩
abbrev b_Md_interfere : ByteArray := prog_12_method_3_code
def y_Md_interfere : MethodName := ⟨"LeaderlessMapModel", "interfere", "(II)Z"⟩
abbrev b_Md_related : ByteArray := prog_12_method_4_code
def y_Md_related : MethodName := ⟨"LeaderlessMapModel", "related", "(IIII)Z"⟩
abbrev b_Md_put : ByteArray := prog_12_method_6_code
def y_Md_put : MethodName := ⟨"LeaderlessMapModel", "put", "(IIII)V"⟩
abbrev b_Md_fit : ByteArray := prog_12_method_5_code
def y_Md_fit : MethodName := ⟨"LeaderlessMapModel", "fit", "(IIIIII)V"⟩
abbrev b_Md_send : ByteArray := prog_12_method_7_code
def y_Md_send : MethodName := ⟨"LeaderlessMapModel", "send", "(IIIII)V"⟩
abbrev b_Md_sendAll : ByteArray := prog_12_method_8_code
def y_Md_sendAll : MethodName := ⟨"LeaderlessMapModel", "sendAll", "(IIII)V"⟩
abbrev b_Md_take : ByteArray := prog_12_method_9_code
def y_Md_take : MethodName := ⟨"LeaderlessMapModel", "take", "(I)V"⟩
abbrev b_Md_lose : ByteArray := prog_12_method_10_code
def y_Md_lose : MethodName := ⟨"LeaderlessMapModel", "lose", "(I)Z"⟩
abbrev b_Md_preaccept : ByteArray := prog_12_method_13_code
def y_Md_preaccept : MethodName := ⟨"LeaderlessMapModel", "preaccept", "(III)V"⟩
abbrev b_Md_accept : ByteArray := prog_12_method_14_code
def y_Md_accept : MethodName := ⟨"LeaderlessMapModel", "accept", "(III)V"⟩
abbrev b_Md_asked : ByteArray := prog_12_method_15_code
def y_Md_asked : MethodName := ⟨"LeaderlessMapModel", "asked", "(III)V"⟩
abbrev b_Md_settle : ByteArray := prog_12_method_16_code
def y_Md_settle : MethodName := ⟨"LeaderlessMapModel", "settle", "(I)V"⟩
abbrev b_Md_counts : ByteArray := prog_12_method_17_code
def y_Md_counts : MethodName := ⟨"LeaderlessMapModel", "counts", "(II)Z"⟩
abbrev b_Md_finish : ByteArray := prog_12_method_21_code
def y_Md_finish : MethodName := ⟨"LeaderlessMapModel", "finish", "(IIII)V"⟩
abbrev b_Md_start : ByteArray := prog_12_method_18_code
def y_Md_start : MethodName := ⟨"LeaderlessMapModel", "start", "(III)V"⟩
abbrev b_Md_agree : ByteArray := prog_12_method_20_code
def y_Md_agree : MethodName := ⟨"LeaderlessMapModel", "agree", "(IIIIII)V"⟩
abbrev b_Md_afterPreaccept : ByteArray := prog_12_method_19_code
def y_Md_afterPreaccept : MethodName := ⟨"LeaderlessMapModel", "afterPreaccept", "(II)V"⟩
abbrev b_Md_accepted : ByteArray := prog_12_method_22_code
def y_Md_accepted : MethodName := ⟨"LeaderlessMapModel", "accepted", "(II)I"⟩
abbrev b_Md_plain : ByteArray := prog_12_method_23_code
def y_Md_plain : MethodName := ⟨"LeaderlessMapModel", "plain", "(II)Z"⟩
abbrev b_Md_common : ByteArray := prog_12_method_24_code
def y_Md_common : MethodName := ⟨"LeaderlessMapModel", "common", "(III)I"⟩
abbrev b_Md_preaccepted : ByteArray := prog_12_method_25_code
def y_Md_preaccepted : MethodName := ⟨"LeaderlessMapModel", "preaccepted", "(II)I"⟩
abbrev b_Md_afterPromise : ByteArray := prog_12_method_26_code
def y_Md_afterPromise : MethodName := ⟨"LeaderlessMapModel", "afterPromise", "(II)V"⟩
abbrev b_Md_receive : ByteArray := prog_12_method_12_code
def y_Md_receive : MethodName := ⟨"LeaderlessMapModel", "receive", "(IIII)V"⟩
abbrev b_Md_deliver : ByteArray := prog_12_method_11_code
def y_Md_deliver : MethodName := ⟨"LeaderlessMapModel", "deliver", "(I)I"⟩
abbrev b_Md_propose : ByteArray := prog_12_method_27_code
def y_Md_propose : MethodName := ⟨"LeaderlessMapModel", "propose", "(IIZI)I"⟩
abbrev b_Md_prepare : ByteArray := prog_12_method_28_code
def y_Md_prepare : MethodName := ⟨"LeaderlessMapModel", "prepare", "(II)I"⟩
abbrev b_Md_crash : ByteArray := prog_12_method_29_code
def y_Md_crash : MethodName := ⟨"LeaderlessMapModel", "crash", "(I)Z"⟩
abbrev b_Md_reachable : ByteArray := prog_12_method_30_code
def y_Md_reachable : MethodName := ⟨"LeaderlessMapModel", "reachable", "(I)V"⟩
abbrev b_Md_component : ByteArray := prog_12_method_31_code
def y_Md_component : MethodName := ⟨"LeaderlessMapModel", "component", "(I)I"⟩
abbrev b_Md_ready : ByteArray := prog_12_method_32_code
def y_Md_ready : MethodName := ⟨"LeaderlessMapModel", "ready", "(II)Z"⟩
abbrev b_Md_next : ByteArray := prog_12_method_33_code
def y_Md_next : MethodName := ⟨"LeaderlessMapModel", "next", "(II)I"⟩
abbrev b_Md_act : ByteArray := prog_12_method_34_code
def y_Md_act : MethodName := ⟨"LeaderlessMapModel", "act", "(II)V"⟩
abbrev b_Md_execute : ByteArray := prog_12_method_35_code
def y_Md_execute : MethodName := ⟨"LeaderlessMapModel", "execute", "(I)I"⟩
abbrev b_Md_waiting : ByteArray := prog_12_method_36_code
def y_Md_waiting : MethodName := ⟨"LeaderlessMapModel", "waiting", "()I"⟩
abbrev b_Md_message : ByteArray := prog_12_method_37_code
def y_Md_message : MethodName := ⟨"LeaderlessMapModel", "message", "(I)I"⟩
abbrev b_Md_lost : ByteArray := prog_12_method_38_code
def y_Md_lost : MethodName := ⟨"LeaderlessMapModel", "lost", "()I"⟩
abbrev b_Md_named : ByteArray := prog_12_method_39_code
def y_Md_named : MethodName := ⟨"LeaderlessMapModel", "named", "(II)Z"⟩
abbrev b_Md_state : ByteArray := prog_12_method_40_code
def y_Md_state : MethodName := ⟨"LeaderlessMapModel", "state", "(II)I"⟩
abbrev b_Md_command : ByteArray := prog_12_method_41_code
def y_Md_command : MethodName := ⟨"LeaderlessMapModel", "command", "(II)I"⟩
abbrev b_Md_seq : ByteArray := prog_12_method_42_code
def y_Md_seq : MethodName := ⟨"LeaderlessMapModel", "seq", "(II)I"⟩
abbrev b_Md_deps : ByteArray := prog_12_method_43_code
def y_Md_deps : MethodName := ⟨"LeaderlessMapModel", "deps", "(II)I"⟩
abbrev b_Md_promised : ByteArray := prog_12_method_44_code
def y_Md_promised : MethodName := ⟨"LeaderlessMapModel", "promised", "(II)I"⟩
abbrev b_Md_over : ByteArray := prog_12_method_45_code
def y_Md_over : MethodName := ⟨"LeaderlessMapModel", "over", "(II)Z"⟩
abbrev b_Md_result : ByteArray := prog_12_method_46_code
def y_Md_result : MethodName := ⟨"LeaderlessMapModel", "result", "(II)I"⟩
abbrev b_Md_place : ByteArray := prog_12_method_47_code
def y_Md_place : MethodName := ⟨"LeaderlessMapModel", "place", "(II)I"⟩
abbrev b_Md_value : ByteArray := prog_12_method_48_code
def y_Md_value : MethodName := ⟨"LeaderlessMapModel", "value", "(II)I"⟩
abbrev b_Law_cell : ByteArray := method_2_code
def y_Law_cell : MethodName := ⟨"LeaderlessMapLaw", "cell", "([II)I"⟩
abbrev b_Law_law : ByteArray := code
def y_Law_law : MethodName := ⟨"LeaderlessMapLaw", "law", "([I)Z"⟩
end
section
/-! the memory: what our objects and arrays hold, without the machine -/
abbrev me_V : Type := Int32 ⊕ Option Nat
abbrev me_v (x : me_V) : Value := match x with
  | .inl n => .int n
  | .inr r => va_rf r
abbrev me_M : Type := (Nat → Nat) × (Nat → Nat) × (Nat → Nat → Nat → Int32) × (Nat → Nat → Nat → Option Nat) × Nat × Nat
def mKd (M : me_M) : Nat → Nat := M.1
def mLn (M : me_M) : Nat → Nat := M.2.1
def mI (M : me_M) : Nat → Nat → Nat → Int32 := M.2.2.1
def mR (M : me_M) : Nat → Nat → Nat → Option Nat := M.2.2.2.1
def mSz (M : me_M) : Nat := M.2.2.2.2.1
def mSl (M : me_M) : Nat := M.2.2.2.2.2
def mSetI (M : me_M) (k q i : Nat) (v : Int32) : me_M := (M.1, M.2.1, fun k' q' i' => if k' = k ∧ q' = q ∧ i' = i then v else M.2.2.1 k' q' i', M.2.2.2)
def mSetR (M : me_M) (k q i : Nat) (v : Option Nat) : me_M := (M.1, M.2.1, M.2.2.1, fun k' q' i' => if k' = k ∧ q' = q ∧ i' = i then v else M.2.2.2.1 k' q' i', M.2.2.2.2)
def mNew (M : me_M) (kd ln sl : Nat) : me_M := (fun q => if q = mSz M then kd else M.1 q, fun q => if q = mSz M then ln else M.2.1 q, M.2.2.1, M.2.2.2.1, mSz M + 1, mSl M + sl)

theorem mKd_SetI (M : me_M) (k q i : Nat) (v : Int32) : mKd (mSetI M k q i v) = mKd M := rfl
theorem mLn_SetI (M : me_M) (k q i : Nat) (v : Int32) : mLn (mSetI M k q i v) = mLn M := rfl
theorem mR_SetI (M : me_M) (k q i : Nat) (v : Int32) : mR (mSetI M k q i v) = mR M := rfl
theorem mSz_SetI (M : me_M) (k q i : Nat) (v : Int32) : mSz (mSetI M k q i v) = mSz M := rfl
theorem mSl_SetI (M : me_M) (k q i : Nat) (v : Int32) : mSl (mSetI M k q i v) = mSl M := rfl
theorem mKd_SetR (M : me_M) (k q i : Nat) (v : Option Nat) : mKd (mSetR M k q i v) = mKd M := rfl
theorem mLn_SetR (M : me_M) (k q i : Nat) (v : Option Nat) : mLn (mSetR M k q i v) = mLn M := rfl
theorem mI_SetR (M : me_M) (k q i : Nat) (v : Option Nat) : mI (mSetR M k q i v) = mI M := rfl
theorem mSz_SetR (M : me_M) (k q i : Nat) (v : Option Nat) : mSz (mSetR M k q i v) = mSz M := rfl
theorem mSl_SetR (M : me_M) (k q i : Nat) (v : Option Nat) : mSl (mSetR M k q i v) = mSl M := rfl
theorem mI_SetI (M : me_M) (k q i : Nat) (v : Int32) (k' q' i' : Nat) : mI (mSetI M k q i v) k' q' i' = if k' = k ∧ q' = q ∧ i' = i then v else mI M k' q' i' := rfl
theorem mR_SetR (M : me_M) (k q i : Nat) (v : Option Nat) (k' q' i' : Nat) : mR (mSetR M k q i v) k' q' i' = if k' = k ∧ q' = q ∧ i' = i then v else mR M k' q' i' := rfl
theorem mI_New (M : me_M) (a b c : Nat) : mI (mNew M a b c) = mI M := rfl
theorem mR_New (M : me_M) (a b c : Nat) : mR (mNew M a b c) = mR M := rfl
theorem mSz_New (M : me_M) (a b c : Nat) : mSz (mNew M a b c) = mSz M + 1 := rfl
theorem mSl_New (M : me_M) (a b c : Nat) : mSl (mNew M a b c) = mSl M + c := rfl
theorem mKd_New (M : me_M) (a b c q : Nat) : mKd (mNew M a b c) q = if q = mSz M then a else mKd M q := rfl
theorem mLn_New (M : me_M) (a b c q : Nat) : mLn (mNew M a b c) q = if q = mSz M then b else mLn M q := rfl
/-- a method's tables: bytes; fields read; fields written; classes made; arrays of references made; constants; calls; the script; Object's constructor; the answer's kind (0 none, 1 int, 2 boolean, 3 a reference) -/
abbrev me_X : Type := ByteArray × (Nat → Option (Nat × Nat × Nat × Nat)) × (Nat → Option (Nat × Nat × Nat × Nat)) × (Nat → Option (Nat × Nat)) × (Nat → Option Nat) × (Nat → Option Int32) × (Nat → List me_V → me_M → Option me_V → me_M → Prop) × Option (Nat × Nat × (Nat → Int32)) × Nat × Nat
abbrev xC (X : me_X) := X.1
abbrev xF (X : me_X) := X.2.1
abbrev xG (X : me_X) := X.2.2.1
abbrev xN (X : me_X) := X.2.2.2.1
abbrev xA (X : me_X) := X.2.2.2.2.1
abbrev xK (X : me_X) := X.2.2.2.2.2.1
abbrev xCall (X : me_X) := X.2.2.2.2.2.2.1
abbrev xS (X : me_X) := X.2.2.2.2.2.2.2.1
abbrev xO (X : me_X) := X.2.2.2.2.2.2.2.2.1
abbrev xR (X : me_X) := X.2.2.2.2.2.2.2.2.2
abbrev me_J : Type := Nat → List (Option me_V) → List me_V → me_M → Prop

/-- the rules: what holds behind an instruction holds at it -/
def me_rule (me_el : Nat → Nat) (X : me_X) (v : Option me_V) (N : me_M) (J : me_J) : Nat → Prop
  | 0 => ∀ (pc : Nat) (ls : List (Option me_V)) (st : List me_V) (M : me_M) (n : Int) (w : Int32), decode (xC X) pc = .ok (.iconst n, 1) → Int32.ofInt n = w → J (pc + 1) ls (.inl w :: st) M → J pc ls st M
  | 1 => ∀ (pc : Nat) (ls : List (Option me_V)) (st : List me_V) (M : me_M) (n : Int) (w : Int32), decode (xC X) pc = .ok (.bipush n, 2) → (Int8.ofInt n).toInt32 = w → J (pc + 2) ls (.inl w :: st) M → J pc ls st M
  | 2 => ∀ (pc : Nat) (ls : List (Option me_V)) (st : List me_V) (M : me_M) (n : Int) (w : Int32), decode (xC X) pc = .ok (.sipush n, 3) → (Int16.ofInt n).toInt32 = w → J (pc + 3) ls (.inl w :: st) M → J pc ls st M
  | 3 => ∀ (pc : Nat) (ls : List (Option me_V)) (st : List me_V) (M : me_M) (n : Nat) (w : Int32), decode (xC X) pc = .ok (.ldc n, 2) → xK X n = some w → J (pc + 2) ls (.inl w :: st) M → J pc ls st M
  | 4 => ∀ (pc : Nat) (ls : List (Option me_V)) (st : List me_V) (M : me_M), decode (xC X) pc = .ok (.aconst_null, 1) → J (pc + 1) ls (.inr none :: st) M → J pc ls st M
  | 5 => ∀ (pc : Nat) (ls : List (Option me_V)) (st : List me_V) (M : me_M) (k : Fin 4) (x : Int32), decode (xC X) pc = .ok (.iload_n k, 1) → ls[(k : Nat)]? = some (some (.inl x)) → J (pc + 1) ls (.inl x :: st) M → J pc ls st M
  | 6 => ∀ (pc : Nat) (ls : List (Option me_V)) (st : List me_V) (M : me_M) (k : Nat) (x : Int32), decode (xC X) pc = .ok (.iload k, 2) → ls[k]? = some (some (.inl x)) → J (pc + 2) ls (.inl x :: st) M → J pc ls st M
  | 7 => ∀ (pc : Nat) (ls : List (Option me_V)) (st : List me_V) (M : me_M) (k : Fin 4) (x : Option Nat), decode (xC X) pc = .ok (.aload_n k, 1) → ls[(k : Nat)]? = some (some (.inr x)) → J (pc + 1) ls (.inr x :: st) M → J pc ls st M
  | 8 => ∀ (pc : Nat) (ls : List (Option me_V)) (st : List me_V) (M : me_M) (k : Nat) (x : Option Nat), decode (xC X) pc = .ok (.aload k, 2) → ls[k]? = some (some (.inr x)) → J (pc + 2) ls (.inr x :: st) M → J pc ls st M
  | 9 => ∀ (pc : Nat) (ls : List (Option me_V)) (st : List me_V) (M : me_M) (k : Fin 4) (x : Int32) (ls2 : List (Option me_V)), decode (xC X) pc = .ok (.istore_n k, 1) → (k : Nat) < ls.length → ls.set (k : Nat) (some (.inl x)) = ls2 → J (pc + 1) ls2 st M → J pc ls (.inl x :: st) M
  | 10 => ∀ (pc : Nat) (ls : List (Option me_V)) (st : List me_V) (M : me_M) (k : Nat) (x : Int32) (ls2 : List (Option me_V)), decode (xC X) pc = .ok (.istore k, 2) → k < ls.length → ls.set k (some (.inl x)) = ls2 → J (pc + 2) ls2 st M → J pc ls (.inl x :: st) M
  | 11 => ∀ (pc : Nat) (ls : List (Option me_V)) (st : List me_V) (M : me_M) (k : Fin 4) (x : Option Nat) (ls2 : List (Option me_V)), decode (xC X) pc = .ok (.astore_n k, 1) → (k : Nat) < ls.length → ls.set (k : Nat) (some (.inr x)) = ls2 → J (pc + 1) ls2 st M → J pc ls (.inr x :: st) M
  | 12 => ∀ (pc : Nat) (ls : List (Option me_V)) (st : List me_V) (M : me_M) (k : Nat) (x : Option Nat) (ls2 : List (Option me_V)), decode (xC X) pc = .ok (.astore k, 2) → k < ls.length → ls.set k (some (.inr x)) = ls2 → J (pc + 2) ls2 st M → J pc ls (.inr x :: st) M
  | 13 => ∀ (pc : Nat) (ls : List (Option me_V)) (st : List me_V) (M : me_M) (k : Nat) (n : Int) (x : Int32) (ls2 : List (Option me_V)), decode (xC X) pc = .ok (.iinc k n, 3) → ls[k]? = some (some (.inl x)) → ls.set k (some (.inl (x + Int32.ofInt n))) = ls2 → J (pc + 3) ls2 st M → J pc ls st M
  | 14 => ∀ (pc : Nat) (ls : List (Option me_V)) (st : List me_V) (M : me_M) (x y : Int32), decode (xC X) pc = .ok (.iadd, 1) → J (pc + 1) ls (.inl (x + y) :: st) M → J pc ls (.inl y :: .inl x :: st) M
  | 15 => ∀ (pc : Nat) (ls : List (Option me_V)) (st : List me_V) (M : me_M) (x y : Int32), decode (xC X) pc = .ok (.isub, 1) → J (pc + 1) ls (.inl (x - y) :: st) M → J pc ls (.inl y :: .inl x :: st) M
  | 16 => ∀ (pc : Nat) (ls : List (Option me_V)) (st : List me_V) (M : me_M) (x y : Int32), decode (xC X) pc = .ok (.imul, 1) → J (pc + 1) ls (.inl (x * y) :: st) M → J pc ls (.inl y :: .inl x :: st) M
  | 17 => ∀ (pc : Nat) (ls : List (Option me_V)) (st : List me_V) (M : me_M) (x y : Int32), decode (xC X) pc = .ok (.iand, 1) → J (pc + 1) ls (.inl (x &&& y) :: st) M → J pc ls (.inl y :: .inl x :: st) M
  | 18 => ∀ (pc : Nat) (ls : List (Option me_V)) (st : List me_V) (M : me_M) (x y : Int32), decode (xC X) pc = .ok (.ior, 1) → J (pc + 1) ls (.inl (x ||| y) :: st) M → J pc ls (.inl y :: .inl x :: st) M
  | 19 => ∀ (pc : Nat) (ls : List (Option me_V)) (st : List me_V) (M : me_M) (x y : Int32), decode (xC X) pc = .ok (.ixor, 1) → J (pc + 1) ls (.inl (x ^^^ y) :: st) M → J pc ls (.inl y :: .inl x :: st) M
  | 20 => ∀ (pc : Nat) (ls : List (Option me_V)) (st : List me_V) (M : me_M) (x y : Int32), decode (xC X) pc = .ok (.ishl, 1) → J (pc + 1) ls (.inl (x <<< (y &&& 31)) :: st) M → J pc ls (.inl y :: .inl x :: st) M
  | 21 => ∀ (pc : Nat) (ls : List (Option me_V)) (st : List me_V) (M : me_M) (x y : Int32), decode (xC X) pc = .ok (.ishr, 1) → J (pc + 1) ls (.inl (x >>> (y &&& 31)) :: st) M → J pc ls (.inl y :: .inl x :: st) M
  | 22 => ∀ (pc : Nat) (ls : List (Option me_V)) (st : List me_V) (M : me_M) (x y : Int32), decode (xC X) pc = .ok (.idiv, 1) → ¬ y = 0 → J (pc + 1) ls (.inl (x / y) :: st) M → J pc ls (.inl y :: .inl x :: st) M
  | 23 => ∀ (pc : Nat) (ls : List (Option me_V)) (st : List me_V) (M : me_M) (x y : Int32), decode (xC X) pc = .ok (.irem, 1) → ¬ y = 0 → J (pc + 1) ls (.inl (x - x / y * y) :: st) M → J pc ls (.inl y :: .inl x :: st) M
  | 24 => ∀ (pc : Nat) (ls : List (Option me_V)) (st : List me_V) (M : me_M) (x : Int32), decode (xC X) pc = .ok (.ineg, 1) → J (pc + 1) ls (.inl (-x) :: st) M → J pc ls (.inl x :: st) M
  | 25 => ∀ (pc : Nat) (ls : List (Option me_V)) (st : List me_V) (M : me_M) (x : me_V), decode (xC X) pc = .ok (.dup, 1) → J (pc + 1) ls (x :: x :: st) M → J pc ls (x :: st) M
  | 26 => ∀ (pc : Nat) (ls : List (Option me_V)) (st : List me_V) (M : me_M) (x : me_V), decode (xC X) pc = .ok (.pop, 1) → J (pc + 1) ls st M → J pc ls (x :: st) M
  | 27 => ∀ (pc : Nat) (ls : List (Option me_V)) (st : List me_V) (M : me_M) (x y : me_V), decode (xC X) pc = .ok (.dup_x1, 1) → J (pc + 1) ls (x :: y :: x :: st) M → J pc ls (x :: y :: st) M
  | 28 => ∀ (pc : Nat) (ls : List (Option me_V)) (st : List me_V) (M : me_M) (x y z : me_V), decode (xC X) pc = .ok (.dup_x2, 1) → J (pc + 1) ls (x :: y :: z :: x :: st) M → J pc ls (x :: y :: z :: st) M
  | 29 => ∀ (pc : Nat) (ls : List (Option me_V)) (st : List me_V) (M : me_M) (x y : me_V), decode (xC X) pc = .ok (.dup2, 1) → J (pc + 1) ls (x :: y :: x :: y :: st) M → J pc ls (x :: y :: st) M
  | 30 => ∀ (pc : Nat) (ls : List (Option me_V)) (st : List me_V) (M : me_M) (x : Int32) (off : Int) (tgt : Nat), decode (xC X) pc = .ok (.ifCond .eq off, 3) → (pc : Int) + off = (tgt : Int) → (x = 0 → J tgt ls st M) → (¬ x = 0 → J (pc + 3) ls st M) → J pc ls (.inl x :: st) M
  | 31 => ∀ (pc : Nat) (ls : List (Option me_V)) (st : List me_V) (M : me_M) (x : Int32) (off : Int) (tgt : Nat), decode (xC X) pc = .ok (.ifCond .ne off, 3) → (pc : Int) + off = (tgt : Int) → (¬ x = 0 → J tgt ls st M) → (x = 0 → J (pc + 3) ls st M) → J pc ls (.inl x :: st) M
  | 32 => ∀ (pc : Nat) (ls : List (Option me_V)) (st : List me_V) (M : me_M) (x : Int32) (off : Int) (tgt : Nat), decode (xC X) pc = .ok (.ifCond .lt off, 3) → (pc : Int) + off = (tgt : Int) → (x < 0 → J tgt ls st M) → (¬ x < 0 → J (pc + 3) ls st M) → J pc ls (.inl x :: st) M
  | 33 => ∀ (pc : Nat) (ls : List (Option me_V)) (st : List me_V) (M : me_M) (x : Int32) (off : Int) (tgt : Nat), decode (xC X) pc = .ok (.ifCond .ge off, 3) → (pc : Int) + off = (tgt : Int) → (0 ≤ x → J tgt ls st M) → (¬ 0 ≤ x → J (pc + 3) ls st M) → J pc ls (.inl x :: st) M
  | 34 => ∀ (pc : Nat) (ls : List (Option me_V)) (st : List me_V) (M : me_M) (x : Int32) (off : Int) (tgt : Nat), decode (xC X) pc = .ok (.ifCond .gt off, 3) → (pc : Int) + off = (tgt : Int) → (0 < x → J tgt ls st M) → (¬ 0 < x → J (pc + 3) ls st M) → J pc ls (.inl x :: st) M
  | 35 => ∀ (pc : Nat) (ls : List (Option me_V)) (st : List me_V) (M : me_M) (x : Int32) (off : Int) (tgt : Nat), decode (xC X) pc = .ok (.ifCond .le off, 3) → (pc : Int) + off = (tgt : Int) → (x ≤ 0 → J tgt ls st M) → (¬ x ≤ 0 → J (pc + 3) ls st M) → J pc ls (.inl x :: st) M
  | 36 => ∀ (pc : Nat) (ls : List (Option me_V)) (st : List me_V) (M : me_M) (x y : Int32) (off : Int) (tgt : Nat), decode (xC X) pc = .ok (.if_icmp .eq off, 3) → (pc : Int) + off = (tgt : Int) → (x = y → J tgt ls st M) → (¬ x = y → J (pc + 3) ls st M) → J pc ls (.inl y :: .inl x :: st) M
  | 37 => ∀ (pc : Nat) (ls : List (Option me_V)) (st : List me_V) (M : me_M) (x y : Int32) (off : Int) (tgt : Nat), decode (xC X) pc = .ok (.if_icmp .ne off, 3) → (pc : Int) + off = (tgt : Int) → (¬ x = y → J tgt ls st M) → (x = y → J (pc + 3) ls st M) → J pc ls (.inl y :: .inl x :: st) M
  | 38 => ∀ (pc : Nat) (ls : List (Option me_V)) (st : List me_V) (M : me_M) (x y : Int32) (off : Int) (tgt : Nat), decode (xC X) pc = .ok (.if_icmp .lt off, 3) → (pc : Int) + off = (tgt : Int) → (x < y → J tgt ls st M) → (¬ x < y → J (pc + 3) ls st M) → J pc ls (.inl y :: .inl x :: st) M
  | 39 => ∀ (pc : Nat) (ls : List (Option me_V)) (st : List me_V) (M : me_M) (x y : Int32) (off : Int) (tgt : Nat), decode (xC X) pc = .ok (.if_icmp .ge off, 3) → (pc : Int) + off = (tgt : Int) → (y ≤ x → J tgt ls st M) → (¬ y ≤ x → J (pc + 3) ls st M) → J pc ls (.inl y :: .inl x :: st) M
  | 40 => ∀ (pc : Nat) (ls : List (Option me_V)) (st : List me_V) (M : me_M) (x y : Int32) (off : Int) (tgt : Nat), decode (xC X) pc = .ok (.if_icmp .gt off, 3) → (pc : Int) + off = (tgt : Int) → (y < x → J tgt ls st M) → (¬ y < x → J (pc + 3) ls st M) → J pc ls (.inl y :: .inl x :: st) M
  | 41 => ∀ (pc : Nat) (ls : List (Option me_V)) (st : List me_V) (M : me_M) (x y : Int32) (off : Int) (tgt : Nat), decode (xC X) pc = .ok (.if_icmp .le off, 3) → (pc : Int) + off = (tgt : Int) → (x ≤ y → J tgt ls st M) → (¬ x ≤ y → J (pc + 3) ls st M) → J pc ls (.inl y :: .inl x :: st) M
  | 42 => ∀ (pc : Nat) (ls : List (Option me_V)) (st : List me_V) (M : me_M) (x y : Option Nat) (off : Int) (tgt : Nat), decode (xC X) pc = .ok (.if_acmp .eq off, 3) → (pc : Int) + off = (tgt : Int) → (x = y → J tgt ls st M) → (¬ x = y → J (pc + 3) ls st M) → J pc ls (.inr y :: .inr x :: st) M
  | 43 => ∀ (pc : Nat) (ls : List (Option me_V)) (st : List me_V) (M : me_M) (x y : Option Nat) (off : Int) (tgt : Nat), decode (xC X) pc = .ok (.if_acmp .ne off, 3) → (pc : Int) + off = (tgt : Int) → (¬ x = y → J tgt ls st M) → (x = y → J (pc + 3) ls st M) → J pc ls (.inr y :: .inr x :: st) M
  | 44 => ∀ (pc : Nat) (ls : List (Option me_V)) (st : List me_V) (M : me_M) (x : Option Nat) (off : Int) (tgt : Nat), decode (xC X) pc = .ok (.ifnull off, 3) → (pc : Int) + off = (tgt : Int) → (x = none → J tgt ls st M) → (¬ x = none → J (pc + 3) ls st M) → J pc ls (.inr x :: st) M
  | 45 => ∀ (pc : Nat) (ls : List (Option me_V)) (st : List me_V) (M : me_M) (x : Option Nat) (off : Int) (tgt : Nat), decode (xC X) pc = .ok (.ifnonnull off, 3) → (pc : Int) + off = (tgt : Int) → (¬ x = none → J tgt ls st M) → (x = none → J (pc + 3) ls st M) → J pc ls (.inr x :: st) M
  | 46 => ∀ (pc : Nat) (ls : List (Option me_V)) (st : List me_V) (M : me_M) (off : Int) (tgt : Nat), decode (xC X) pc = .ok (.goto off, 3) → (pc : Int) + off = (tgt : Int) → J tgt ls st M → J pc ls st M
  | 47 => ∀ (pc : Nat) (ls : List (Option me_V)) (st : List me_V) (M : me_M) (x : Int32) (dflt lo hi : Int) (offs : Array Int) (len : Nat) (off : Int) (tgt : Nat), decode (xC X) pc = .ok (.tableswitch dflt lo hi offs, len) → ¬ x.toInt < lo → ¬ hi < x.toInt → offs[(x.toInt - lo).toNat]? = some off → (pc : Int) + off = (tgt : Int) → J tgt ls st M → J pc ls (.inl x :: st) M
  | 48 => ∀ (pc : Nat) (ls : List (Option me_V)) (st : List me_V) (M : me_M) (x : Int32) (dflt lo hi : Int) (offs : Array Int) (len : Nat) (tgt : Nat), decode (xC X) pc = .ok (.tableswitch dflt lo hi offs, len) → x.toInt < lo ∨ hi < x.toInt → (pc : Int) + dflt = (tgt : Int) → J tgt ls st M → J pc ls (.inl x :: st) M
  | 49 => ∀ (pc : Nat) (ls : List (Option me_V)) (st : List me_V) (M : me_M) (x : Int32) (dflt : Int) (ps : Array (Int × Int)) (len : Nat) (off : Int) (tgt : Nat), decode (xC X) pc = .ok (.lookupswitch dflt ps, len) → (ps.toList.zip (ps.toList.drop 1)).all (fun (a, next) => a.1 < next.1) = true → Op.lookupswitch.offset ps.toList dflt x.toInt = off → (pc : Int) + off = (tgt : Int) → J tgt ls st M → J pc ls (.inl x :: st) M
  | 50 => ∀ (pc : Nat) (ls : List (Option me_V)) (st : List me_V) (M : me_M) (q idx ci k key ty : Nat), decode (xC X) pc = .ok (.getfield idx, 3) → xF X idx = some (ci, k, key, ty) → ¬ ty = 2 → mKd M q = ci + 1 → J (pc + 3) ls (.inl (mI M key q 0) :: st) M → J pc ls (.inr (some q) :: st) M
  | 51 => ∀ (pc : Nat) (ls : List (Option me_V)) (st : List me_V) (M : me_M) (q idx ci k key : Nat), decode (xC X) pc = .ok (.getfield idx, 3) → xF X idx = some (ci, k, key, 2) → mKd M q = ci + 1 → J (pc + 3) ls (.inr (mR M key q 0) :: st) M → J pc ls (.inr (some q) :: st) M
  | 52 => ∀ (pc : Nat) (ls : List (Option me_V)) (st : List me_V) (M : me_M) (q idx ci k key : Nat) (x : Int32), decode (xC X) pc = .ok (.putfield idx, 3) → xG X idx = some (ci, k, key, 0) → mKd M q = ci + 1 → J (pc + 3) ls st (mSetI M key q 0 x) → J pc ls (.inl x :: .inr (some q) :: st) M
  | 53 => ∀ (pc : Nat) (ls : List (Option me_V)) (st : List me_V) (M : me_M) (q idx ci k key : Nat) (x : Int32), decode (xC X) pc = .ok (.putfield idx, 3) → xG X idx = some (ci, k, key, 1) → mKd M q = ci + 1 → x = 0 ∨ x = 1 → J (pc + 3) ls st (mSetI M key q 0 x) → J pc ls (.inl x :: .inr (some q) :: st) M
  | 54 => ∀ (pc : Nat) (ls : List (Option me_V)) (st : List me_V) (M : me_M) (q idx ci k key : Nat) (x : Option Nat), decode (xC X) pc = .ok (.putfield idx, 3) → xG X idx = some (ci, k, key, 2) → mKd M q = ci + 1 → J (pc + 3) ls st (mSetR M key q 0 x) → J pc ls (.inr x :: .inr (some q) :: st) M
  | 55 => ∀ (pc : Nat) (ls : List (Option me_V)) (st : List me_V) (M : me_M) (idx ci n : Nat), decode (xC X) pc = .ok (.new idx, 3) → xN X idx = some (ci, n) → J (pc + 3) ls (.inr (some (mSz M)) :: st) (mNew M (ci + 1) 0 n) → J pc ls st M
  | 56 => ∀ (pc : Nat) (ls : List (Option me_V)) (st : List me_V) (M : me_M) (n : Int32), decode (xC X) pc = .ok (.newarray .int, 2) → xA X 70000 = some 100 → ¬ n < 0 → n.toNatClampNeg ≤ 100000 → J (pc + 2) ls (.inr (some (mSz M)) :: st) (mNew M 100 n.toNatClampNeg n.toNatClampNeg) → J pc ls (.inl n :: st) M
  | 57 => ∀ (pc : Nat) (ls : List (Option me_V)) (st : List me_V) (M : me_M) (n : Int32), decode (xC X) pc = .ok (.newarray .boolean, 2) → xA X 70001 = some 101 → ¬ n < 0 → n.toNatClampNeg ≤ 100000 → J (pc + 2) ls (.inr (some (mSz M)) :: st) (mNew M 101 n.toNatClampNeg n.toNatClampNeg) → J pc ls (.inl n :: st) M
  | 58 => ∀ (pc : Nat) (ls : List (Option me_V)) (st : List me_V) (M : me_M) (n : Int32) (idx a : Nat), decode (xC X) pc = .ok (.anewarray idx, 3) → xA X idx = some a → idx < 70000 → ¬ n < 0 → n.toNatClampNeg ≤ 100000 → J (pc + 3) ls (.inr (some (mSz M)) :: st) (mNew M a n.toNatClampNeg n.toNatClampNeg) → J pc ls (.inl n :: st) M
  | 59 => ∀ (pc : Nat) (ls : List (Option me_V)) (st : List me_V) (M : me_M) (q : Nat), decode (xC X) pc = .ok (.arraylength, 1) → 100 ≤ mKd M q → J (pc + 1) ls (.inl (Int32.ofNat (mLn M q)) :: st) M → J pc ls (.inr (some q) :: st) M
  | 60 => ∀ (pc : Nat) (ls : List (Option me_V)) (st : List me_V) (M : me_M) (q : Nat) (i : Int32), decode (xC X) pc = .ok (.iaload, 1) → mKd M q = 100 → vp_in i (mLn M q) → J (pc + 1) ls (.inl (mI M 100 q i.toNatClampNeg) :: st) M → J pc ls (.inl i :: .inr (some q) :: st) M
  | 61 => ∀ (pc : Nat) (ls : List (Option me_V)) (st : List me_V) (M : me_M) (q : Nat) (i x : Int32), decode (xC X) pc = .ok (.iastore, 1) → mKd M q = 100 → vp_in i (mLn M q) → J (pc + 1) ls st (mSetI M 100 q i.toNatClampNeg x) → J pc ls (.inl x :: .inl i :: .inr (some q) :: st) M
  | 62 => ∀ (pc : Nat) (ls : List (Option me_V)) (st : List me_V) (M : me_M) (q : Nat) (i : Int32), decode (xC X) pc = .ok (.baload, 1) → mKd M q = 101 → vp_in i (mLn M q) → J (pc + 1) ls (.inl (mI M 101 q i.toNatClampNeg) :: st) M → J pc ls (.inl i :: .inr (some q) :: st) M
  | 63 => ∀ (pc : Nat) (ls : List (Option me_V)) (st : List me_V) (M : me_M) (q : Nat) (i x : Int32), decode (xC X) pc = .ok (.bastore, 1) → mKd M q = 101 → vp_in i (mLn M q) → x = 0 ∨ x = 1 → J (pc + 1) ls st (mSetI M 101 q i.toNatClampNeg x) → J pc ls (.inl x :: .inl i :: .inr (some q) :: st) M
  | 64 => ∀ (pc : Nat) (ls : List (Option me_V)) (st : List me_V) (M : me_M) (q a : Nat) (i : Int32), decode (xC X) pc = .ok (.aaload, 1) → mKd M q = a → 102 ≤ a → vp_in i (mLn M q) → J (pc + 1) ls (.inr (mR M a q i.toNatClampNeg) :: st) M → J pc ls (.inl i :: .inr (some q) :: st) M
  | 65 => ∀ (pc : Nat) (ls : List (Option me_V)) (st : List me_V) (M : me_M) (q a w : Nat) (i : Int32), decode (xC X) pc = .ok (.aastore, 1) → mKd M q = a → 102 ≤ a → vp_in i (mLn M q) → mKd M w = me_el a → J (pc + 1) ls st (mSetR M a q i.toNatClampNeg (some w)) → J pc ls (.inr (some w) :: .inl i :: .inr (some q) :: st) M
  | 66 => ∀ (pc : Nat) (ls : List (Option me_V)) (st : List me_V) (M : me_M) (q a : Nat) (i : Int32), decode (xC X) pc = .ok (.aastore, 1) → mKd M q = a → 102 ≤ a → vp_in i (mLn M q) → J (pc + 1) ls st (mSetR M a q i.toNatClampNeg none) → J pc ls (.inr none :: .inl i :: .inr (some q) :: st) M
  | 67 => ∀ (pc : Nat) (ls : List (Option me_V)) (st : List me_V) (M : me_M) (as : List me_V) (r : Option me_V) (M1 : me_M), xCall X pc as M r M1 → st.length ≤ 8 → J (pc + 3) ls (r.toList ++ st) M1 → J pc ls (as.reverse ++ st) M
  | 68 => ∀ (pc : Nat) (ls : List (Option me_V)) (st : List me_V) (M : me_M) (q : Nat), decode (xC X) pc = .ok (.invokespecial (xO X), 3) → ¬ xO X = 0 → st.length ≤ 8 → J (pc + 3) ls st M → J pc ls (.inr (some q) :: st) M
  | 69 => ∀ (pc : Nat) (ls : List (Option me_V)) (st : List me_V) (M : me_M) (k : Nat) (ls2 : List (Option me_V)), ls.set k none = ls2 → J pc ls2 st M → J pc ls st M
  | 70 => ∀ (pc : Nat) (ls : List (Option me_V)) (st : List me_V) (M : me_M) (b L : Nat) (xs : Nat → Int32) (i : Int32), decode (xC X) pc = .ok (.iaload, 1) → xS X = some (b, L, xs) → vp_in i L → J (pc + 1) ls (.inl (xs i.toNatClampNeg) :: st) M → J pc ls (.inl i :: .inr (some b) :: st) M
  | 71 => ∀ (pc : Nat) (ls : List (Option me_V)) (st : List me_V) (M : me_M) (b L : Nat) (xs : Nat → Int32), decode (xC X) pc = .ok (.arraylength, 1) → xS X = some (b, L, xs) → J (pc + 1) ls (.inl (Int32.ofNat L) :: st) M → J pc ls (.inr (some b) :: st) M
  | 72 => ∀ (pc : Nat) (ls : List (Option me_V)) (x : Int32), decode (xC X) pc = .ok (.ireturn, 1) → xR X = 1 → v = some (.inl x) → J pc ls [.inl x] N
  | 73 => ∀ (pc : Nat) (ls : List (Option me_V)) (x : Int32), decode (xC X) pc = .ok (.ireturn, 1) → xR X = 2 → x = 0 ∨ x = 1 → v = some (.inl x) → J pc ls [.inl x] N
  | 74 => ∀ (pc : Nat) (ls : List (Option me_V)) (x : Option Nat), decode (xC X) pc = .ok (.areturn, 1) → xR X = 3 → v = some (.inr x) → J pc ls [.inr x] N
  | 75 => ∀ (pc : Nat) (ls : List (Option me_V)), decode (xC X) pc = .ok (.return_, 1) → xR X = 0 → v = none → J pc ls [] N
  | _ => True
def RUN (el : Nat → Nat) (X : me_X) (pc : Nat) (ls : List (Option me_V)) (st : List me_V) (M : me_M) (v : Option me_V) (N : me_M) : Prop := ∀ J : me_J, (∀ i, me_rule el X v N J i) → J pc ls st M
def EX (el : Nat → Nat) (X : me_X) (pc : Nat) (ls : List (Option me_V)) (st : List me_V) (M : me_M) (Q : Option me_V → me_M → Prop) : Prop := ∃ v N, RUN el X pc ls st M v N ∧ Q v N
theorem EX.mono {el : Nat → Nat} {X : me_X} {pc : Nat} {ls : List (Option me_V)} {st : List me_V} {M : me_M} {Q Q2 : Option me_V → me_M → Prop} (h : EX el X pc ls st M Q) (hq : ∀ v N, Q v N → Q2 v N) : EX el X pc ls st M Q2 := by
  obtain ⟨v, N, h1, h2⟩ := h
  exact ⟨v, N, h1, hq v N h2⟩
section EXR
variable {el : Nat → Nat} {X : me_X} {Q : Option me_V → me_M → Prop}
theorem ex_iconst {pc : Nat} {ls : List (Option me_V)} {st : List me_V} {M : me_M} {n : Int} {w : Int32} (d : decode (xC X) pc = .ok (.iconst n, 1)) (hw : Int32.ofInt n = w) (kk : EX el X (pc + 1) ls (.inl w :: st) M Q) : EX el X pc ls st M Q := by
  obtain ⟨v, N, h9, q9⟩ := kk
  exact ⟨v, N, fun J hJ => (hJ 0 : me_rule el X v N J 0) pc ls st M n w d hw (h9 J hJ), q9⟩
theorem ex_bipush {pc : Nat} {ls : List (Option me_V)} {st : List me_V} {M : me_M} {n : Int} {w : Int32} (d : decode (xC X) pc = .ok (.bipush n, 2)) (hw : (Int8.ofInt n).toInt32 = w) (kk : EX el X (pc + 2) ls (.inl w :: st) M Q) : EX el X pc ls st M Q := by
  obtain ⟨v, N, h9, q9⟩ := kk
  exact ⟨v, N, fun J hJ => (hJ 1 : me_rule el X v N J 1) pc ls st M n w d hw (h9 J hJ), q9⟩
theorem ex_sipush {pc : Nat} {ls : List (Option me_V)} {st : List me_V} {M : me_M} {n : Int} {w : Int32} (d : decode (xC X) pc = .ok (.sipush n, 3)) (hw : (Int16.ofInt n).toInt32 = w) (kk : EX el X (pc + 3) ls (.inl w :: st) M Q) : EX el X pc ls st M Q := by
  obtain ⟨v, N, h9, q9⟩ := kk
  exact ⟨v, N, fun J hJ => (hJ 2 : me_rule el X v N J 2) pc ls st M n w d hw (h9 J hJ), q9⟩
theorem ex_ldc {pc : Nat} {ls : List (Option me_V)} {st : List me_V} {M : me_M} {n : Nat} {w : Int32} (d : decode (xC X) pc = .ok (.ldc n, 2)) (hw : xK X n = some w) (kk : EX el X (pc + 2) ls (.inl w :: st) M Q) : EX el X pc ls st M Q := by
  obtain ⟨v, N, h9, q9⟩ := kk
  exact ⟨v, N, fun J hJ => (hJ 3 : me_rule el X v N J 3) pc ls st M n w d hw (h9 J hJ), q9⟩
theorem ex_null {pc : Nat} {ls : List (Option me_V)} {st : List me_V} {M : me_M} (d : decode (xC X) pc = .ok (.aconst_null, 1)) (kk : EX el X (pc + 1) ls (.inr none :: st) M Q) : EX el X pc ls st M Q := by
  obtain ⟨v, N, h9, q9⟩ := kk
  exact ⟨v, N, fun J hJ => (hJ 4 : me_rule el X v N J 4) pc ls st M d (h9 J hJ), q9⟩
theorem ex_iload_n {pc : Nat} {ls : List (Option me_V)} {st : List me_V} {M : me_M} {k : Fin 4} {x : Int32} (d : decode (xC X) pc = .ok (.iload_n k, 1)) (hl : ls[(k : Nat)]? = some (some (.inl x))) (kk : EX el X (pc + 1) ls (.inl x :: st) M Q) : EX el X pc ls st M Q := by
  obtain ⟨v, N, h9, q9⟩ := kk
  exact ⟨v, N, fun J hJ => (hJ 5 : me_rule el X v N J 5) pc ls st M k x d hl (h9 J hJ), q9⟩
theorem ex_iload {pc : Nat} {ls : List (Option me_V)} {st : List me_V} {M : me_M} {k : Nat} {x : Int32} (d : decode (xC X) pc = .ok (.iload k, 2)) (hl : ls[k]? = some (some (.inl x))) (kk : EX el X (pc + 2) ls (.inl x :: st) M Q) : EX el X pc ls st M Q := by
  obtain ⟨v, N, h9, q9⟩ := kk
  exact ⟨v, N, fun J hJ => (hJ 6 : me_rule el X v N J 6) pc ls st M k x d hl (h9 J hJ), q9⟩
theorem ex_aload_n {pc : Nat} {ls : List (Option me_V)} {st : List me_V} {M : me_M} {k : Fin 4} {x : Option Nat} (d : decode (xC X) pc = .ok (.aload_n k, 1)) (hl : ls[(k : Nat)]? = some (some (.inr x))) (kk : EX el X (pc + 1) ls (.inr x :: st) M Q) : EX el X pc ls st M Q := by
  obtain ⟨v, N, h9, q9⟩ := kk
  exact ⟨v, N, fun J hJ => (hJ 7 : me_rule el X v N J 7) pc ls st M k x d hl (h9 J hJ), q9⟩
theorem ex_aload {pc : Nat} {ls : List (Option me_V)} {st : List me_V} {M : me_M} {k : Nat} {x : Option Nat} (d : decode (xC X) pc = .ok (.aload k, 2)) (hl : ls[k]? = some (some (.inr x))) (kk : EX el X (pc + 2) ls (.inr x :: st) M Q) : EX el X pc ls st M Q := by
  obtain ⟨v, N, h9, q9⟩ := kk
  exact ⟨v, N, fun J hJ => (hJ 8 : me_rule el X v N J 8) pc ls st M k x d hl (h9 J hJ), q9⟩
theorem ex_istore_n {pc : Nat} {ls : List (Option me_V)} {st : List me_V} {M : me_M} {k : Fin 4} {x : Int32} {ls2 : List (Option me_V)} (d : decode (xC X) pc = .ok (.istore_n k, 1)) (hk : (k : Nat) < ls.length) (hs : ls.set (k : Nat) (some (.inl x)) = ls2) (kk : EX el X (pc + 1) ls2 st M Q) : EX el X pc ls (.inl x :: st) M Q := by
  obtain ⟨v, N, h9, q9⟩ := kk
  exact ⟨v, N, fun J hJ => (hJ 9 : me_rule el X v N J 9) pc ls st M k x ls2 d hk hs (h9 J hJ), q9⟩
theorem ex_istore {pc : Nat} {ls : List (Option me_V)} {st : List me_V} {M : me_M} {k : Nat} {x : Int32} {ls2 : List (Option me_V)} (d : decode (xC X) pc = .ok (.istore k, 2)) (hk : k < ls.length) (hs : ls.set k (some (.inl x)) = ls2) (kk : EX el X (pc + 2) ls2 st M Q) : EX el X pc ls (.inl x :: st) M Q := by
  obtain ⟨v, N, h9, q9⟩ := kk
  exact ⟨v, N, fun J hJ => (hJ 10 : me_rule el X v N J 10) pc ls st M k x ls2 d hk hs (h9 J hJ), q9⟩
theorem ex_astore_n {pc : Nat} {ls : List (Option me_V)} {st : List me_V} {M : me_M} {k : Fin 4} {x : Option Nat} {ls2 : List (Option me_V)} (d : decode (xC X) pc = .ok (.astore_n k, 1)) (hk : (k : Nat) < ls.length) (hs : ls.set (k : Nat) (some (.inr x)) = ls2) (kk : EX el X (pc + 1) ls2 st M Q) : EX el X pc ls (.inr x :: st) M Q := by
  obtain ⟨v, N, h9, q9⟩ := kk
  exact ⟨v, N, fun J hJ => (hJ 11 : me_rule el X v N J 11) pc ls st M k x ls2 d hk hs (h9 J hJ), q9⟩
theorem ex_astore {pc : Nat} {ls : List (Option me_V)} {st : List me_V} {M : me_M} {k : Nat} {x : Option Nat} {ls2 : List (Option me_V)} (d : decode (xC X) pc = .ok (.astore k, 2)) (hk : k < ls.length) (hs : ls.set k (some (.inr x)) = ls2) (kk : EX el X (pc + 2) ls2 st M Q) : EX el X pc ls (.inr x :: st) M Q := by
  obtain ⟨v, N, h9, q9⟩ := kk
  exact ⟨v, N, fun J hJ => (hJ 12 : me_rule el X v N J 12) pc ls st M k x ls2 d hk hs (h9 J hJ), q9⟩
theorem ex_iinc {pc : Nat} {ls : List (Option me_V)} {st : List me_V} {M : me_M} {k : Nat} {n : Int} {x : Int32} {ls2 : List (Option me_V)} (d : decode (xC X) pc = .ok (.iinc k n, 3)) (hl : ls[k]? = some (some (.inl x))) (hs : ls.set k (some (.inl (x + Int32.ofInt n))) = ls2) (kk : EX el X (pc + 3) ls2 st M Q) : EX el X pc ls st M Q := by
  obtain ⟨v, N, h9, q9⟩ := kk
  exact ⟨v, N, fun J hJ => (hJ 13 : me_rule el X v N J 13) pc ls st M k n x ls2 d hl hs (h9 J hJ), q9⟩
theorem ex_iadd {pc : Nat} {ls : List (Option me_V)} {st : List me_V} {M : me_M} {x y : Int32} (d : decode (xC X) pc = .ok (.iadd, 1)) (kk : EX el X (pc + 1) ls (.inl (x + y) :: st) M Q) : EX el X pc ls (.inl y :: .inl x :: st) M Q := by
  obtain ⟨v, N, h9, q9⟩ := kk
  exact ⟨v, N, fun J hJ => (hJ 14 : me_rule el X v N J 14) pc ls st M x y d (h9 J hJ), q9⟩
theorem ex_isub {pc : Nat} {ls : List (Option me_V)} {st : List me_V} {M : me_M} {x y : Int32} (d : decode (xC X) pc = .ok (.isub, 1)) (kk : EX el X (pc + 1) ls (.inl (x - y) :: st) M Q) : EX el X pc ls (.inl y :: .inl x :: st) M Q := by
  obtain ⟨v, N, h9, q9⟩ := kk
  exact ⟨v, N, fun J hJ => (hJ 15 : me_rule el X v N J 15) pc ls st M x y d (h9 J hJ), q9⟩
theorem ex_imul {pc : Nat} {ls : List (Option me_V)} {st : List me_V} {M : me_M} {x y : Int32} (d : decode (xC X) pc = .ok (.imul, 1)) (kk : EX el X (pc + 1) ls (.inl (x * y) :: st) M Q) : EX el X pc ls (.inl y :: .inl x :: st) M Q := by
  obtain ⟨v, N, h9, q9⟩ := kk
  exact ⟨v, N, fun J hJ => (hJ 16 : me_rule el X v N J 16) pc ls st M x y d (h9 J hJ), q9⟩
theorem ex_iand {pc : Nat} {ls : List (Option me_V)} {st : List me_V} {M : me_M} {x y : Int32} (d : decode (xC X) pc = .ok (.iand, 1)) (kk : EX el X (pc + 1) ls (.inl (x &&& y) :: st) M Q) : EX el X pc ls (.inl y :: .inl x :: st) M Q := by
  obtain ⟨v, N, h9, q9⟩ := kk
  exact ⟨v, N, fun J hJ => (hJ 17 : me_rule el X v N J 17) pc ls st M x y d (h9 J hJ), q9⟩
theorem ex_ior {pc : Nat} {ls : List (Option me_V)} {st : List me_V} {M : me_M} {x y : Int32} (d : decode (xC X) pc = .ok (.ior, 1)) (kk : EX el X (pc + 1) ls (.inl (x ||| y) :: st) M Q) : EX el X pc ls (.inl y :: .inl x :: st) M Q := by
  obtain ⟨v, N, h9, q9⟩ := kk
  exact ⟨v, N, fun J hJ => (hJ 18 : me_rule el X v N J 18) pc ls st M x y d (h9 J hJ), q9⟩
theorem ex_ixor {pc : Nat} {ls : List (Option me_V)} {st : List me_V} {M : me_M} {x y : Int32} (d : decode (xC X) pc = .ok (.ixor, 1)) (kk : EX el X (pc + 1) ls (.inl (x ^^^ y) :: st) M Q) : EX el X pc ls (.inl y :: .inl x :: st) M Q := by
  obtain ⟨v, N, h9, q9⟩ := kk
  exact ⟨v, N, fun J hJ => (hJ 19 : me_rule el X v N J 19) pc ls st M x y d (h9 J hJ), q9⟩
theorem ex_ishl {pc : Nat} {ls : List (Option me_V)} {st : List me_V} {M : me_M} {x y : Int32} (d : decode (xC X) pc = .ok (.ishl, 1)) (kk : EX el X (pc + 1) ls (.inl (x <<< (y &&& 31)) :: st) M Q) : EX el X pc ls (.inl y :: .inl x :: st) M Q := by
  obtain ⟨v, N, h9, q9⟩ := kk
  exact ⟨v, N, fun J hJ => (hJ 20 : me_rule el X v N J 20) pc ls st M x y d (h9 J hJ), q9⟩
theorem ex_ishr {pc : Nat} {ls : List (Option me_V)} {st : List me_V} {M : me_M} {x y : Int32} (d : decode (xC X) pc = .ok (.ishr, 1)) (kk : EX el X (pc + 1) ls (.inl (x >>> (y &&& 31)) :: st) M Q) : EX el X pc ls (.inl y :: .inl x :: st) M Q := by
  obtain ⟨v, N, h9, q9⟩ := kk
  exact ⟨v, N, fun J hJ => (hJ 21 : me_rule el X v N J 21) pc ls st M x y d (h9 J hJ), q9⟩
theorem ex_idiv {pc : Nat} {ls : List (Option me_V)} {st : List me_V} {M : me_M} {x y : Int32} (d : decode (xC X) pc = .ok (.idiv, 1)) (hy : ¬ y = 0) (kk : EX el X (pc + 1) ls (.inl (x / y) :: st) M Q) : EX el X pc ls (.inl y :: .inl x :: st) M Q := by
  obtain ⟨v, N, h9, q9⟩ := kk
  exact ⟨v, N, fun J hJ => (hJ 22 : me_rule el X v N J 22) pc ls st M x y d hy (h9 J hJ), q9⟩
theorem ex_irem {pc : Nat} {ls : List (Option me_V)} {st : List me_V} {M : me_M} {x y : Int32} (d : decode (xC X) pc = .ok (.irem, 1)) (hy : ¬ y = 0) (kk : EX el X (pc + 1) ls (.inl (x - x / y * y) :: st) M Q) : EX el X pc ls (.inl y :: .inl x :: st) M Q := by
  obtain ⟨v, N, h9, q9⟩ := kk
  exact ⟨v, N, fun J hJ => (hJ 23 : me_rule el X v N J 23) pc ls st M x y d hy (h9 J hJ), q9⟩
theorem ex_ineg {pc : Nat} {ls : List (Option me_V)} {st : List me_V} {M : me_M} {x : Int32} (d : decode (xC X) pc = .ok (.ineg, 1)) (kk : EX el X (pc + 1) ls (.inl (-x) :: st) M Q) : EX el X pc ls (.inl x :: st) M Q := by
  obtain ⟨v, N, h9, q9⟩ := kk
  exact ⟨v, N, fun J hJ => (hJ 24 : me_rule el X v N J 24) pc ls st M x d (h9 J hJ), q9⟩
theorem ex_dup {pc : Nat} {ls : List (Option me_V)} {st : List me_V} {M : me_M} {x : me_V} (d : decode (xC X) pc = .ok (.dup, 1)) (kk : EX el X (pc + 1) ls (x :: x :: st) M Q) : EX el X pc ls (x :: st) M Q := by
  obtain ⟨v, N, h9, q9⟩ := kk
  exact ⟨v, N, fun J hJ => (hJ 25 : me_rule el X v N J 25) pc ls st M x d (h9 J hJ), q9⟩
theorem ex_pop {pc : Nat} {ls : List (Option me_V)} {st : List me_V} {M : me_M} {x : me_V} (d : decode (xC X) pc = .ok (.pop, 1)) (kk : EX el X (pc + 1) ls st M Q) : EX el X pc ls (x :: st) M Q := by
  obtain ⟨v, N, h9, q9⟩ := kk
  exact ⟨v, N, fun J hJ => (hJ 26 : me_rule el X v N J 26) pc ls st M x d (h9 J hJ), q9⟩
theorem ex_dup_x1 {pc : Nat} {ls : List (Option me_V)} {st : List me_V} {M : me_M} {x y : me_V} (d : decode (xC X) pc = .ok (.dup_x1, 1)) (kk : EX el X (pc + 1) ls (x :: y :: x :: st) M Q) : EX el X pc ls (x :: y :: st) M Q := by
  obtain ⟨v, N, h9, q9⟩ := kk
  exact ⟨v, N, fun J hJ => (hJ 27 : me_rule el X v N J 27) pc ls st M x y d (h9 J hJ), q9⟩
theorem ex_dup_x2 {pc : Nat} {ls : List (Option me_V)} {st : List me_V} {M : me_M} {x y z : me_V} (d : decode (xC X) pc = .ok (.dup_x2, 1)) (kk : EX el X (pc + 1) ls (x :: y :: z :: x :: st) M Q) : EX el X pc ls (x :: y :: z :: st) M Q := by
  obtain ⟨v, N, h9, q9⟩ := kk
  exact ⟨v, N, fun J hJ => (hJ 28 : me_rule el X v N J 28) pc ls st M x y z d (h9 J hJ), q9⟩
theorem ex_dup2 {pc : Nat} {ls : List (Option me_V)} {st : List me_V} {M : me_M} {x y : me_V} (d : decode (xC X) pc = .ok (.dup2, 1)) (kk : EX el X (pc + 1) ls (x :: y :: x :: y :: st) M Q) : EX el X pc ls (x :: y :: st) M Q := by
  obtain ⟨v, N, h9, q9⟩ := kk
  exact ⟨v, N, fun J hJ => (hJ 29 : me_rule el X v N J 29) pc ls st M x y d (h9 J hJ), q9⟩
theorem ex_if_eq {pc : Nat} {ls : List (Option me_V)} {st : List me_V} {M : me_M} {x : Int32} {off : Int} {tgt : Nat} (d : decode (xC X) pc = .ok (.ifCond .eq off, 3)) (ht : (pc : Int) + off = (tgt : Int)) (kt : x = 0 → EX el X tgt ls st M Q) (kf : ¬ x = 0 → EX el X (pc + 3) ls st M Q) : EX el X pc ls (.inl x :: st) M Q := by
  by_cases hg : x = 0
  · obtain ⟨v, N, h9, q9⟩ := kt hg
    exact ⟨v, N, fun J hJ => (hJ 30 : me_rule el X v N J 30) pc ls st M x off tgt d ht (fun _ => h9 J hJ) (fun z => absurd hg z), q9⟩
  · obtain ⟨v, N, h9, q9⟩ := kf hg
    exact ⟨v, N, fun J hJ => (hJ 30 : me_rule el X v N J 30) pc ls st M x off tgt d ht (fun z => absurd z hg) (fun _ => h9 J hJ), q9⟩
theorem ex_if_ne {pc : Nat} {ls : List (Option me_V)} {st : List me_V} {M : me_M} {x : Int32} {off : Int} {tgt : Nat} (d : decode (xC X) pc = .ok (.ifCond .ne off, 3)) (ht : (pc : Int) + off = (tgt : Int)) (kt : ¬ x = 0 → EX el X tgt ls st M Q) (kf : x = 0 → EX el X (pc + 3) ls st M Q) : EX el X pc ls (.inl x :: st) M Q := by
  by_cases hg : x = 0
  · obtain ⟨v, N, h9, q9⟩ := kf hg
    exact ⟨v, N, fun J hJ => (hJ 31 : me_rule el X v N J 31) pc ls st M x off tgt d ht (fun z => absurd hg z) (fun _ => h9 J hJ), q9⟩
  · obtain ⟨v, N, h9, q9⟩ := kt hg
    exact ⟨v, N, fun J hJ => (hJ 31 : me_rule el X v N J 31) pc ls st M x off tgt d ht (fun _ => h9 J hJ) (fun z => absurd z hg), q9⟩
theorem ex_if_lt {pc : Nat} {ls : List (Option me_V)} {st : List me_V} {M : me_M} {x : Int32} {off : Int} {tgt : Nat} (d : decode (xC X) pc = .ok (.ifCond .lt off, 3)) (ht : (pc : Int) + off = (tgt : Int)) (kt : x < 0 → EX el X tgt ls st M Q) (kf : ¬ x < 0 → EX el X (pc + 3) ls st M Q) : EX el X pc ls (.inl x :: st) M Q := by
  by_cases hg : x < 0
  · obtain ⟨v, N, h9, q9⟩ := kt hg
    exact ⟨v, N, fun J hJ => (hJ 32 : me_rule el X v N J 32) pc ls st M x off tgt d ht (fun _ => h9 J hJ) (fun z => absurd hg z), q9⟩
  · obtain ⟨v, N, h9, q9⟩ := kf hg
    exact ⟨v, N, fun J hJ => (hJ 32 : me_rule el X v N J 32) pc ls st M x off tgt d ht (fun z => absurd z hg) (fun _ => h9 J hJ), q9⟩
theorem ex_if_ge {pc : Nat} {ls : List (Option me_V)} {st : List me_V} {M : me_M} {x : Int32} {off : Int} {tgt : Nat} (d : decode (xC X) pc = .ok (.ifCond .ge off, 3)) (ht : (pc : Int) + off = (tgt : Int)) (kt : 0 ≤ x → EX el X tgt ls st M Q) (kf : ¬ 0 ≤ x → EX el X (pc + 3) ls st M Q) : EX el X pc ls (.inl x :: st) M Q := by
  by_cases hg : 0 ≤ x
  · obtain ⟨v, N, h9, q9⟩ := kt hg
    exact ⟨v, N, fun J hJ => (hJ 33 : me_rule el X v N J 33) pc ls st M x off tgt d ht (fun _ => h9 J hJ) (fun z => absurd hg z), q9⟩
  · obtain ⟨v, N, h9, q9⟩ := kf hg
    exact ⟨v, N, fun J hJ => (hJ 33 : me_rule el X v N J 33) pc ls st M x off tgt d ht (fun z => absurd z hg) (fun _ => h9 J hJ), q9⟩
theorem ex_if_gt {pc : Nat} {ls : List (Option me_V)} {st : List me_V} {M : me_M} {x : Int32} {off : Int} {tgt : Nat} (d : decode (xC X) pc = .ok (.ifCond .gt off, 3)) (ht : (pc : Int) + off = (tgt : Int)) (kt : 0 < x → EX el X tgt ls st M Q) (kf : ¬ 0 < x → EX el X (pc + 3) ls st M Q) : EX el X pc ls (.inl x :: st) M Q := by
  by_cases hg : 0 < x
  · obtain ⟨v, N, h9, q9⟩ := kt hg
    exact ⟨v, N, fun J hJ => (hJ 34 : me_rule el X v N J 34) pc ls st M x off tgt d ht (fun _ => h9 J hJ) (fun z => absurd hg z), q9⟩
  · obtain ⟨v, N, h9, q9⟩ := kf hg
    exact ⟨v, N, fun J hJ => (hJ 34 : me_rule el X v N J 34) pc ls st M x off tgt d ht (fun z => absurd z hg) (fun _ => h9 J hJ), q9⟩
theorem ex_if_le {pc : Nat} {ls : List (Option me_V)} {st : List me_V} {M : me_M} {x : Int32} {off : Int} {tgt : Nat} (d : decode (xC X) pc = .ok (.ifCond .le off, 3)) (ht : (pc : Int) + off = (tgt : Int)) (kt : x ≤ 0 → EX el X tgt ls st M Q) (kf : ¬ x ≤ 0 → EX el X (pc + 3) ls st M Q) : EX el X pc ls (.inl x :: st) M Q := by
  by_cases hg : x ≤ 0
  · obtain ⟨v, N, h9, q9⟩ := kt hg
    exact ⟨v, N, fun J hJ => (hJ 35 : me_rule el X v N J 35) pc ls st M x off tgt d ht (fun _ => h9 J hJ) (fun z => absurd hg z), q9⟩
  · obtain ⟨v, N, h9, q9⟩ := kf hg
    exact ⟨v, N, fun J hJ => (hJ 35 : me_rule el X v N J 35) pc ls st M x off tgt d ht (fun z => absurd z hg) (fun _ => h9 J hJ), q9⟩
theorem ex_icmp_eq {pc : Nat} {ls : List (Option me_V)} {st : List me_V} {M : me_M} {x y : Int32} {off : Int} {tgt : Nat} (d : decode (xC X) pc = .ok (.if_icmp .eq off, 3)) (ht : (pc : Int) + off = (tgt : Int)) (kt : x = y → EX el X tgt ls st M Q) (kf : ¬ x = y → EX el X (pc + 3) ls st M Q) : EX el X pc ls (.inl y :: .inl x :: st) M Q := by
  by_cases hg : x = y
  · obtain ⟨v, N, h9, q9⟩ := kt hg
    exact ⟨v, N, fun J hJ => (hJ 36 : me_rule el X v N J 36) pc ls st M x y off tgt d ht (fun _ => h9 J hJ) (fun z => absurd hg z), q9⟩
  · obtain ⟨v, N, h9, q9⟩ := kf hg
    exact ⟨v, N, fun J hJ => (hJ 36 : me_rule el X v N J 36) pc ls st M x y off tgt d ht (fun z => absurd z hg) (fun _ => h9 J hJ), q9⟩
theorem ex_icmp_ne {pc : Nat} {ls : List (Option me_V)} {st : List me_V} {M : me_M} {x y : Int32} {off : Int} {tgt : Nat} (d : decode (xC X) pc = .ok (.if_icmp .ne off, 3)) (ht : (pc : Int) + off = (tgt : Int)) (kt : ¬ x = y → EX el X tgt ls st M Q) (kf : x = y → EX el X (pc + 3) ls st M Q) : EX el X pc ls (.inl y :: .inl x :: st) M Q := by
  by_cases hg : x = y
  · obtain ⟨v, N, h9, q9⟩ := kf hg
    exact ⟨v, N, fun J hJ => (hJ 37 : me_rule el X v N J 37) pc ls st M x y off tgt d ht (fun z => absurd hg z) (fun _ => h9 J hJ), q9⟩
  · obtain ⟨v, N, h9, q9⟩ := kt hg
    exact ⟨v, N, fun J hJ => (hJ 37 : me_rule el X v N J 37) pc ls st M x y off tgt d ht (fun _ => h9 J hJ) (fun z => absurd z hg), q9⟩
theorem ex_icmp_lt {pc : Nat} {ls : List (Option me_V)} {st : List me_V} {M : me_M} {x y : Int32} {off : Int} {tgt : Nat} (d : decode (xC X) pc = .ok (.if_icmp .lt off, 3)) (ht : (pc : Int) + off = (tgt : Int)) (kt : x < y → EX el X tgt ls st M Q) (kf : ¬ x < y → EX el X (pc + 3) ls st M Q) : EX el X pc ls (.inl y :: .inl x :: st) M Q := by
  by_cases hg : x < y
  · obtain ⟨v, N, h9, q9⟩ := kt hg
    exact ⟨v, N, fun J hJ => (hJ 38 : me_rule el X v N J 38) pc ls st M x y off tgt d ht (fun _ => h9 J hJ) (fun z => absurd hg z), q9⟩
  · obtain ⟨v, N, h9, q9⟩ := kf hg
    exact ⟨v, N, fun J hJ => (hJ 38 : me_rule el X v N J 38) pc ls st M x y off tgt d ht (fun z => absurd z hg) (fun _ => h9 J hJ), q9⟩
theorem ex_icmp_ge {pc : Nat} {ls : List (Option me_V)} {st : List me_V} {M : me_M} {x y : Int32} {off : Int} {tgt : Nat} (d : decode (xC X) pc = .ok (.if_icmp .ge off, 3)) (ht : (pc : Int) + off = (tgt : Int)) (kt : y ≤ x → EX el X tgt ls st M Q) (kf : ¬ y ≤ x → EX el X (pc + 3) ls st M Q) : EX el X pc ls (.inl y :: .inl x :: st) M Q := by
  by_cases hg : y ≤ x
  · obtain ⟨v, N, h9, q9⟩ := kt hg
    exact ⟨v, N, fun J hJ => (hJ 39 : me_rule el X v N J 39) pc ls st M x y off tgt d ht (fun _ => h9 J hJ) (fun z => absurd hg z), q9⟩
  · obtain ⟨v, N, h9, q9⟩ := kf hg
    exact ⟨v, N, fun J hJ => (hJ 39 : me_rule el X v N J 39) pc ls st M x y off tgt d ht (fun z => absurd z hg) (fun _ => h9 J hJ), q9⟩
theorem ex_icmp_gt {pc : Nat} {ls : List (Option me_V)} {st : List me_V} {M : me_M} {x y : Int32} {off : Int} {tgt : Nat} (d : decode (xC X) pc = .ok (.if_icmp .gt off, 3)) (ht : (pc : Int) + off = (tgt : Int)) (kt : y < x → EX el X tgt ls st M Q) (kf : ¬ y < x → EX el X (pc + 3) ls st M Q) : EX el X pc ls (.inl y :: .inl x :: st) M Q := by
  by_cases hg : y < x
  · obtain ⟨v, N, h9, q9⟩ := kt hg
    exact ⟨v, N, fun J hJ => (hJ 40 : me_rule el X v N J 40) pc ls st M x y off tgt d ht (fun _ => h9 J hJ) (fun z => absurd hg z), q9⟩
  · obtain ⟨v, N, h9, q9⟩ := kf hg
    exact ⟨v, N, fun J hJ => (hJ 40 : me_rule el X v N J 40) pc ls st M x y off tgt d ht (fun z => absurd z hg) (fun _ => h9 J hJ), q9⟩
theorem ex_icmp_le {pc : Nat} {ls : List (Option me_V)} {st : List me_V} {M : me_M} {x y : Int32} {off : Int} {tgt : Nat} (d : decode (xC X) pc = .ok (.if_icmp .le off, 3)) (ht : (pc : Int) + off = (tgt : Int)) (kt : x ≤ y → EX el X tgt ls st M Q) (kf : ¬ x ≤ y → EX el X (pc + 3) ls st M Q) : EX el X pc ls (.inl y :: .inl x :: st) M Q := by
  by_cases hg : x ≤ y
  · obtain ⟨v, N, h9, q9⟩ := kt hg
    exact ⟨v, N, fun J hJ => (hJ 41 : me_rule el X v N J 41) pc ls st M x y off tgt d ht (fun _ => h9 J hJ) (fun z => absurd hg z), q9⟩
  · obtain ⟨v, N, h9, q9⟩ := kf hg
    exact ⟨v, N, fun J hJ => (hJ 41 : me_rule el X v N J 41) pc ls st M x y off tgt d ht (fun z => absurd z hg) (fun _ => h9 J hJ), q9⟩
theorem ex_acmp_eq {pc : Nat} {ls : List (Option me_V)} {st : List me_V} {M : me_M} {x y : Option Nat} {off : Int} {tgt : Nat} (d : decode (xC X) pc = .ok (.if_acmp .eq off, 3)) (ht : (pc : Int) + off = (tgt : Int)) (kt : x = y → EX el X tgt ls st M Q) (kf : ¬ x = y → EX el X (pc + 3) ls st M Q) : EX el X pc ls (.inr y :: .inr x :: st) M Q := by
  by_cases hg : x = y
  · obtain ⟨v, N, h9, q9⟩ := kt hg
    exact ⟨v, N, fun J hJ => (hJ 42 : me_rule el X v N J 42) pc ls st M x y off tgt d ht (fun _ => h9 J hJ) (fun z => absurd hg z), q9⟩
  · obtain ⟨v, N, h9, q9⟩ := kf hg
    exact ⟨v, N, fun J hJ => (hJ 42 : me_rule el X v N J 42) pc ls st M x y off tgt d ht (fun z => absurd z hg) (fun _ => h9 J hJ), q9⟩
theorem ex_acmp_ne {pc : Nat} {ls : List (Option me_V)} {st : List me_V} {M : me_M} {x y : Option Nat} {off : Int} {tgt : Nat} (d : decode (xC X) pc = .ok (.if_acmp .ne off, 3)) (ht : (pc : Int) + off = (tgt : Int)) (kt : ¬ x = y → EX el X tgt ls st M Q) (kf : x = y → EX el X (pc + 3) ls st M Q) : EX el X pc ls (.inr y :: .inr x :: st) M Q := by
  by_cases hg : x = y
  · obtain ⟨v, N, h9, q9⟩ := kf hg
    exact ⟨v, N, fun J hJ => (hJ 43 : me_rule el X v N J 43) pc ls st M x y off tgt d ht (fun z => absurd hg z) (fun _ => h9 J hJ), q9⟩
  · obtain ⟨v, N, h9, q9⟩ := kt hg
    exact ⟨v, N, fun J hJ => (hJ 43 : me_rule el X v N J 43) pc ls st M x y off tgt d ht (fun _ => h9 J hJ) (fun z => absurd z hg), q9⟩
theorem ex_ifnull {pc : Nat} {ls : List (Option me_V)} {st : List me_V} {M : me_M} {x : Option Nat} {off : Int} {tgt : Nat} (d : decode (xC X) pc = .ok (.ifnull off, 3)) (ht : (pc : Int) + off = (tgt : Int)) (kt : x = none → EX el X tgt ls st M Q) (kf : ¬ x = none → EX el X (pc + 3) ls st M Q) : EX el X pc ls (.inr x :: st) M Q := by
  by_cases hg : x = none
  · obtain ⟨v, N, h9, q9⟩ := kt hg
    exact ⟨v, N, fun J hJ => (hJ 44 : me_rule el X v N J 44) pc ls st M x off tgt d ht (fun _ => h9 J hJ) (fun z => absurd hg z), q9⟩
  · obtain ⟨v, N, h9, q9⟩ := kf hg
    exact ⟨v, N, fun J hJ => (hJ 44 : me_rule el X v N J 44) pc ls st M x off tgt d ht (fun z => absurd z hg) (fun _ => h9 J hJ), q9⟩
theorem ex_ifnonnull {pc : Nat} {ls : List (Option me_V)} {st : List me_V} {M : me_M} {x : Option Nat} {off : Int} {tgt : Nat} (d : decode (xC X) pc = .ok (.ifnonnull off, 3)) (ht : (pc : Int) + off = (tgt : Int)) (kt : ¬ x = none → EX el X tgt ls st M Q) (kf : x = none → EX el X (pc + 3) ls st M Q) : EX el X pc ls (.inr x :: st) M Q := by
  by_cases hg : x = none
  · obtain ⟨v, N, h9, q9⟩ := kf hg
    exact ⟨v, N, fun J hJ => (hJ 45 : me_rule el X v N J 45) pc ls st M x off tgt d ht (fun z => absurd hg z) (fun _ => h9 J hJ), q9⟩
  · obtain ⟨v, N, h9, q9⟩ := kt hg
    exact ⟨v, N, fun J hJ => (hJ 45 : me_rule el X v N J 45) pc ls st M x off tgt d ht (fun _ => h9 J hJ) (fun z => absurd z hg), q9⟩
theorem ex_goto {pc : Nat} {ls : List (Option me_V)} {st : List me_V} {M : me_M} {off : Int} {tgt : Nat} (d : decode (xC X) pc = .ok (.goto off, 3)) (ht : (pc : Int) + off = (tgt : Int)) (kk : EX el X tgt ls st M Q) : EX el X pc ls st M Q := by
  obtain ⟨v, N, h9, q9⟩ := kk
  exact ⟨v, N, fun J hJ => (hJ 46 : me_rule el X v N J 46) pc ls st M off tgt d ht (h9 J hJ), q9⟩
theorem ex_tabIn {pc : Nat} {ls : List (Option me_V)} {st : List me_V} {M : me_M} {x : Int32} {dflt lo hi : Int} {offs : Array Int} {len : Nat} {off : Int} {tgt : Nat} (d : decode (xC X) pc = .ok (.tableswitch dflt lo hi offs, len)) (h1 : ¬ x.toInt < lo) (h2 : ¬ hi < x.toInt) (ho : offs[(x.toInt - lo).toNat]? = some off) (ht : (pc : Int) + off = (tgt : Int)) (kk : EX el X tgt ls st M Q) : EX el X pc ls (.inl x :: st) M Q := by
  obtain ⟨v, N, h9, q9⟩ := kk
  exact ⟨v, N, fun J hJ => (hJ 47 : me_rule el X v N J 47) pc ls st M x dflt lo hi offs len off tgt d h1 h2 ho ht (h9 J hJ), q9⟩
theorem ex_tabOut {pc : Nat} {ls : List (Option me_V)} {st : List me_V} {M : me_M} {x : Int32} {dflt lo hi : Int} {offs : Array Int} {len : Nat} {tgt : Nat} (d : decode (xC X) pc = .ok (.tableswitch dflt lo hi offs, len)) (h : x.toInt < lo ∨ hi < x.toInt) (ht : (pc : Int) + dflt = (tgt : Int)) (kk : EX el X tgt ls st M Q) : EX el X pc ls (.inl x :: st) M Q := by
  obtain ⟨v, N, h9, q9⟩ := kk
  exact ⟨v, N, fun J hJ => (hJ 48 : me_rule el X v N J 48) pc ls st M x dflt lo hi offs len tgt d h ht (h9 J hJ), q9⟩
theorem ex_lookup {pc : Nat} {ls : List (Option me_V)} {st : List me_V} {M : me_M} {x : Int32} {dflt : Int} {ps : Array (Int × Int)} {len : Nat} {off : Int} {tgt : Nat} (d : decode (xC X) pc = .ok (.lookupswitch dflt ps, len)) (hp : (ps.toList.zip (ps.toList.drop 1)).all (fun (a, next) => a.1 < next.1) = true) (ho : Op.lookupswitch.offset ps.toList dflt x.toInt = off) (ht : (pc : Int) + off = (tgt : Int)) (kk : EX el X tgt ls st M Q) : EX el X pc ls (.inl x :: st) M Q := by
  obtain ⟨v, N, h9, q9⟩ := kk
  exact ⟨v, N, fun J hJ => (hJ 49 : me_rule el X v N J 49) pc ls st M x dflt ps len off tgt d hp ho ht (h9 J hJ), q9⟩
theorem ex_getI {pc : Nat} {ls : List (Option me_V)} {st : List me_V} {M : me_M} {q idx ci k key ty : Nat} {x0 : Option Nat} (d : decode (xC X) pc = .ok (.getfield idx, 3)) (hr : x0 = some q) (hf : xF X idx = some (ci, k, key, ty)) (ht : ¬ ty = 2) (hk : mKd M q = ci + 1) (kk : EX el X (pc + 3) ls (.inl (mI M key q 0) :: st) M Q) : EX el X pc ls (.inr x0 :: st) M Q := by
  subst hr
  obtain ⟨v, N, h9, q9⟩ := kk
  exact ⟨v, N, fun J hJ => (hJ 50 : me_rule el X v N J 50) pc ls st M q idx ci k key ty d hf ht hk (h9 J hJ), q9⟩
theorem ex_getR {pc : Nat} {ls : List (Option me_V)} {st : List me_V} {M : me_M} {q idx ci k key : Nat} {x0 : Option Nat} (d : decode (xC X) pc = .ok (.getfield idx, 3)) (hr : x0 = some q) (hf : xF X idx = some (ci, k, key, 2)) (hk : mKd M q = ci + 1) (kk : EX el X (pc + 3) ls (.inr (mR M key q 0) :: st) M Q) : EX el X pc ls (.inr x0 :: st) M Q := by
  subst hr
  obtain ⟨v, N, h9, q9⟩ := kk
  exact ⟨v, N, fun J hJ => (hJ 51 : me_rule el X v N J 51) pc ls st M q idx ci k key d hf hk (h9 J hJ), q9⟩
theorem ex_putI {pc : Nat} {ls : List (Option me_V)} {st : List me_V} {M : me_M} {q idx ci k key : Nat} {x : Int32} {x0 : Option Nat} (d : decode (xC X) pc = .ok (.putfield idx, 3)) (hr : x0 = some q) (hf : xG X idx = some (ci, k, key, 0)) (hk : mKd M q = ci + 1) (kk : EX el X (pc + 3) ls st (mSetI M key q 0 x) Q) : EX el X pc ls (.inl x :: .inr x0 :: st) M Q := by
  subst hr
  obtain ⟨v, N, h9, q9⟩ := kk
  exact ⟨v, N, fun J hJ => (hJ 52 : me_rule el X v N J 52) pc ls st M q idx ci k key x d hf hk (h9 J hJ), q9⟩
theorem ex_putZ {pc : Nat} {ls : List (Option me_V)} {st : List me_V} {M : me_M} {q idx ci k key : Nat} {x : Int32} {x0 : Option Nat} (d : decode (xC X) pc = .ok (.putfield idx, 3)) (hr : x0 = some q) (hf : xG X idx = some (ci, k, key, 1)) (hk : mKd M q = ci + 1) (hz : x = 0 ∨ x = 1) (kk : EX el X (pc + 3) ls st (mSetI M key q 0 x) Q) : EX el X pc ls (.inl x :: .inr x0 :: st) M Q := by
  subst hr
  obtain ⟨v, N, h9, q9⟩ := kk
  exact ⟨v, N, fun J hJ => (hJ 53 : me_rule el X v N J 53) pc ls st M q idx ci k key x d hf hk hz (h9 J hJ), q9⟩
theorem ex_putR {pc : Nat} {ls : List (Option me_V)} {st : List me_V} {M : me_M} {q idx ci k key : Nat} {x : Option Nat} {x0 : Option Nat} (d : decode (xC X) pc = .ok (.putfield idx, 3)) (hr : x0 = some q) (hf : xG X idx = some (ci, k, key, 2)) (hk : mKd M q = ci + 1) (kk : EX el X (pc + 3) ls st (mSetR M key q 0 x) Q) : EX el X pc ls (.inr x :: .inr x0 :: st) M Q := by
  subst hr
  obtain ⟨v, N, h9, q9⟩ := kk
  exact ⟨v, N, fun J hJ => (hJ 54 : me_rule el X v N J 54) pc ls st M q idx ci k key x d hf hk (h9 J hJ), q9⟩
theorem ex_new {pc : Nat} {ls : List (Option me_V)} {st : List me_V} {M : me_M} {idx ci n : Nat} (d : decode (xC X) pc = .ok (.new idx, 3)) (hf : xN X idx = some (ci, n)) (kk : mKd (mNew M (ci + 1) 0 n) (mSz M) = ci + 1 → EX el X (pc + 3) ls (.inr (some (mSz M)) :: st) (mNew M (ci + 1) 0 n) Q) : EX el X pc ls st M Q := by
  obtain ⟨v, N, h9, q9⟩ := kk (if_pos rfl)
  exact ⟨v, N, fun J hJ => (hJ 55 : me_rule el X v N J 55) pc ls st M idx ci n d hf (h9 J hJ), q9⟩
theorem ex_newI {pc : Nat} {ls : List (Option me_V)} {st : List me_V} {M : me_M} {n : Int32} (d : decode (xC X) pc = .ok (.newarray .int, 2)) (hf : xA X 70000 = some 100) (hn : ¬ n < 0) (hb : n.toNatClampNeg ≤ 100000) (kk : mKd (mNew M 100 n.toNatClampNeg n.toNatClampNeg) (mSz M) = 100 → EX el X (pc + 2) ls (.inr (some (mSz M)) :: st) (mNew M 100 n.toNatClampNeg n.toNatClampNeg) Q) : EX el X pc ls (.inl n :: st) M Q := by
  obtain ⟨v, N, h9, q9⟩ := kk (if_pos rfl)
  exact ⟨v, N, fun J hJ => (hJ 56 : me_rule el X v N J 56) pc ls st M n d hf hn hb (h9 J hJ), q9⟩
theorem ex_newZ {pc : Nat} {ls : List (Option me_V)} {st : List me_V} {M : me_M} {n : Int32} (d : decode (xC X) pc = .ok (.newarray .boolean, 2)) (hf : xA X 70001 = some 101) (hn : ¬ n < 0) (hb : n.toNatClampNeg ≤ 100000) (kk : mKd (mNew M 101 n.toNatClampNeg n.toNatClampNeg) (mSz M) = 101 → EX el X (pc + 2) ls (.inr (some (mSz M)) :: st) (mNew M 101 n.toNatClampNeg n.toNatClampNeg) Q) : EX el X pc ls (.inl n :: st) M Q := by
  obtain ⟨v, N, h9, q9⟩ := kk (if_pos rfl)
  exact ⟨v, N, fun J hJ => (hJ 57 : me_rule el X v N J 57) pc ls st M n d hf hn hb (h9 J hJ), q9⟩
theorem ex_newR {pc : Nat} {ls : List (Option me_V)} {st : List me_V} {M : me_M} {n : Int32} {idx a : Nat} (d : decode (xC X) pc = .ok (.anewarray idx, 3)) (hf : xA X idx = some a) (hi : idx < 70000) (hn : ¬ n < 0) (hb : n.toNatClampNeg ≤ 100000) (kk : mKd (mNew M a n.toNatClampNeg n.toNatClampNeg) (mSz M) = a → EX el X (pc + 3) ls (.inr (some (mSz M)) :: st) (mNew M a n.toNatClampNeg n.toNatClampNeg) Q) : EX el X pc ls (.inl n :: st) M Q := by
  obtain ⟨v, N, h9, q9⟩ := kk (if_pos rfl)
  exact ⟨v, N, fun J hJ => (hJ 58 : me_rule el X v N J 58) pc ls st M n idx a d hf hi hn hb (h9 J hJ), q9⟩
theorem ex_alen {pc : Nat} {ls : List (Option me_V)} {st : List me_V} {M : me_M} {q : Nat} {x0 : Option Nat} (d : decode (xC X) pc = .ok (.arraylength, 1)) (hr : x0 = some q) (hk : 100 ≤ mKd M q) (kk : EX el X (pc + 1) ls (.inl (Int32.ofNat (mLn M q)) :: st) M Q) : EX el X pc ls (.inr x0 :: st) M Q := by
  subst hr
  obtain ⟨v, N, h9, q9⟩ := kk
  exact ⟨v, N, fun J hJ => (hJ 59 : me_rule el X v N J 59) pc ls st M q d hk (h9 J hJ), q9⟩
theorem ex_iald {pc : Nat} {ls : List (Option me_V)} {st : List me_V} {M : me_M} {q : Nat} {i : Int32} {x0 : Option Nat} (d : decode (xC X) pc = .ok (.iaload, 1)) (hr : x0 = some q) (hk : mKd M q = 100) (hi : vp_in i (mLn M q)) (kk : EX el X (pc + 1) ls (.inl (mI M 100 q i.toNatClampNeg) :: st) M Q) : EX el X pc ls (.inl i :: .inr x0 :: st) M Q := by
  subst hr
  obtain ⟨v, N, h9, q9⟩ := kk
  exact ⟨v, N, fun J hJ => (hJ 60 : me_rule el X v N J 60) pc ls st M q i d hk hi (h9 J hJ), q9⟩
theorem ex_iast {pc : Nat} {ls : List (Option me_V)} {st : List me_V} {M : me_M} {q : Nat} {i x : Int32} {x0 : Option Nat} (d : decode (xC X) pc = .ok (.iastore, 1)) (hr : x0 = some q) (hk : mKd M q = 100) (hi : vp_in i (mLn M q)) (kk : EX el X (pc + 1) ls st (mSetI M 100 q i.toNatClampNeg x) Q) : EX el X pc ls (.inl x :: .inl i :: .inr x0 :: st) M Q := by
  subst hr
  obtain ⟨v, N, h9, q9⟩ := kk
  exact ⟨v, N, fun J hJ => (hJ 61 : me_rule el X v N J 61) pc ls st M q i x d hk hi (h9 J hJ), q9⟩
theorem ex_zald {pc : Nat} {ls : List (Option me_V)} {st : List me_V} {M : me_M} {q : Nat} {i : Int32} {x0 : Option Nat} (d : decode (xC X) pc = .ok (.baload, 1)) (hr : x0 = some q) (hk : mKd M q = 101) (hi : vp_in i (mLn M q)) (kk : EX el X (pc + 1) ls (.inl (mI M 101 q i.toNatClampNeg) :: st) M Q) : EX el X pc ls (.inl i :: .inr x0 :: st) M Q := by
  subst hr
  obtain ⟨v, N, h9, q9⟩ := kk
  exact ⟨v, N, fun J hJ => (hJ 62 : me_rule el X v N J 62) pc ls st M q i d hk hi (h9 J hJ), q9⟩
theorem ex_zast {pc : Nat} {ls : List (Option me_V)} {st : List me_V} {M : me_M} {q : Nat} {i x : Int32} {x0 : Option Nat} (d : decode (xC X) pc = .ok (.bastore, 1)) (hr : x0 = some q) (hk : mKd M q = 101) (hi : vp_in i (mLn M q)) (hz : x = 0 ∨ x = 1) (kk : EX el X (pc + 1) ls st (mSetI M 101 q i.toNatClampNeg x) Q) : EX el X pc ls (.inl x :: .inl i :: .inr x0 :: st) M Q := by
  subst hr
  obtain ⟨v, N, h9, q9⟩ := kk
  exact ⟨v, N, fun J hJ => (hJ 63 : me_rule el X v N J 63) pc ls st M q i x d hk hi hz (h9 J hJ), q9⟩
theorem ex_aald {pc : Nat} {ls : List (Option me_V)} {st : List me_V} {M : me_M} {q a : Nat} {i : Int32} {x0 : Option Nat} (d : decode (xC X) pc = .ok (.aaload, 1)) (hr : x0 = some q) (hk : mKd M q = a) (ha : 102 ≤ a) (hi : vp_in i (mLn M q)) (kk : EX el X (pc + 1) ls (.inr (mR M a q i.toNatClampNeg) :: st) M Q) : EX el X pc ls (.inl i :: .inr x0 :: st) M Q := by
  subst hr
  obtain ⟨v, N, h9, q9⟩ := kk
  exact ⟨v, N, fun J hJ => (hJ 64 : me_rule el X v N J 64) pc ls st M q a i d hk ha hi (h9 J hJ), q9⟩
theorem ex_aast {pc : Nat} {ls : List (Option me_V)} {st : List me_V} {M : me_M} {q a w : Nat} {i : Int32} {x0 : Option Nat} {x1 : Option Nat} (d : decode (xC X) pc = .ok (.aastore, 1)) (hr : x0 = some q) (hk : mKd M q = a) (ha : 102 ≤ a) (hi : vp_in i (mLn M q)) (hr1 : x1 = some w) (hw : mKd M w = el a) (kk : EX el X (pc + 1) ls st (mSetR M a q i.toNatClampNeg (some w)) Q) : EX el X pc ls (.inr x1 :: .inl i :: .inr x0 :: st) M Q := by
  subst hr
  subst hr1
  obtain ⟨v, N, h9, q9⟩ := kk
  exact ⟨v, N, fun J hJ => (hJ 65 : me_rule el X v N J 65) pc ls st M q a w i d hk ha hi hw (h9 J hJ), q9⟩
theorem ex_aastN {pc : Nat} {ls : List (Option me_V)} {st : List me_V} {M : me_M} {q a : Nat} {i : Int32} {x0 : Option Nat} (d : decode (xC X) pc = .ok (.aastore, 1)) (hr : x0 = some q) (hk : mKd M q = a) (ha : 102 ≤ a) (hi : vp_in i (mLn M q)) (kk : EX el X (pc + 1) ls st (mSetR M a q i.toNatClampNeg none) Q) : EX el X pc ls (.inr none :: .inl i :: .inr x0 :: st) M Q := by
  subst hr
  obtain ⟨v, N, h9, q9⟩ := kk
  exact ⟨v, N, fun J hJ => (hJ 66 : me_rule el X v N J 66) pc ls st M q a i d hk ha hi (h9 J hJ), q9⟩
theorem ex_call {pc : Nat} {ls : List (Option me_V)} {st : List me_V} {M : me_M} {as : List me_V} {r : Option me_V} {M1 : me_M} (h : xCall X pc as M r M1) (hl : st.length ≤ 8) (kk : EX el X (pc + 3) ls (r.toList ++ st) M1 Q) : EX el X pc ls (as.reverse ++ st) M Q := by
  obtain ⟨v, N, h9, q9⟩ := kk
  exact ⟨v, N, fun J hJ => (hJ 67 : me_rule el X v N J 67) pc ls st M as r M1 h hl (h9 J hJ), q9⟩
theorem ex_obj {pc : Nat} {ls : List (Option me_V)} {st : List me_V} {M : me_M} {q : Nat} {x0 : Option Nat} (d : decode (xC X) pc = .ok (.invokespecial (xO X), 3)) (hr : x0 = some q) (ho : ¬ xO X = 0) (hl : st.length ≤ 8) (kk : EX el X (pc + 3) ls st M Q) : EX el X pc ls (.inr x0 :: st) M Q := by
  subst hr
  obtain ⟨v, N, h9, q9⟩ := kk
  exact ⟨v, N, fun J hJ => (hJ 68 : me_rule el X v N J 68) pc ls st M q d ho hl (h9 J hJ), q9⟩
theorem ex_drop {pc : Nat} {ls : List (Option me_V)} {st : List me_V} {M : me_M} {k : Nat} {ls2 : List (Option me_V)} (hs : ls.set k none = ls2) (kk : EX el X pc ls2 st M Q) : EX el X pc ls st M Q := by
  obtain ⟨v, N, h9, q9⟩ := kk
  exact ⟨v, N, fun J hJ => (hJ 69 : me_rule el X v N J 69) pc ls st M k ls2 hs (h9 J hJ), q9⟩
theorem ex_sald {pc : Nat} {ls : List (Option me_V)} {st : List me_V} {M : me_M} {b L : Nat} {xs : Nat → Int32} {i : Int32} {x0 : Option Nat} (d : decode (xC X) pc = .ok (.iaload, 1)) (hr : x0 = some b) (hs : xS X = some (b, L, xs)) (hi : vp_in i L) (kk : EX el X (pc + 1) ls (.inl (xs i.toNatClampNeg) :: st) M Q) : EX el X pc ls (.inl i :: .inr x0 :: st) M Q := by
  subst hr
  obtain ⟨v, N, h9, q9⟩ := kk
  exact ⟨v, N, fun J hJ => (hJ 70 : me_rule el X v N J 70) pc ls st M b L xs i d hs hi (h9 J hJ), q9⟩
theorem ex_slen {pc : Nat} {ls : List (Option me_V)} {st : List me_V} {M : me_M} {b L : Nat} {xs : Nat → Int32} {x0 : Option Nat} (d : decode (xC X) pc = .ok (.arraylength, 1)) (hr : x0 = some b) (hs : xS X = some (b, L, xs)) (kk : EX el X (pc + 1) ls (.inl (Int32.ofNat L) :: st) M Q) : EX el X pc ls (.inr x0 :: st) M Q := by
  subst hr
  obtain ⟨v, N, h9, q9⟩ := kk
  exact ⟨v, N, fun J hJ => (hJ 71 : me_rule el X v N J 71) pc ls st M b L xs d hs (h9 J hJ), q9⟩
theorem ex_ret_i {pc : Nat} {ls : List (Option me_V)} {x : Int32} {M : me_M} (d : decode (xC X) pc = .ok (.ireturn, 1)) (hr : xR X = 1) (hq : Q (some (.inl x)) M) : EX el X pc ls [.inl x] M Q :=
  ⟨some (.inl x), M, fun J hJ => (hJ 72 : me_rule el X (some (.inl x)) M J 72) pc ls x d hr rfl, hq⟩
theorem ex_ret_z {pc : Nat} {ls : List (Option me_V)} {x : Int32} {M : me_M} (d : decode (xC X) pc = .ok (.ireturn, 1)) (hr : xR X = 2) (hz : x = 0 ∨ x = 1) (hq : Q (some (.inl x)) M) : EX el X pc ls [.inl x] M Q :=
  ⟨some (.inl x), M, fun J hJ => (hJ 73 : me_rule el X (some (.inl x)) M J 73) pc ls x d hr hz rfl, hq⟩
theorem ex_ret_a {pc : Nat} {ls : List (Option me_V)} {x : Option Nat} {M : me_M} (d : decode (xC X) pc = .ok (.areturn, 1)) (hr : xR X = 3) (hq : Q (some (.inr x)) M) : EX el X pc ls [.inr x] M Q :=
  ⟨some (.inr x), M, fun J hJ => (hJ 74 : me_rule el X (some (.inr x)) M J 74) pc ls x d hr rfl, hq⟩
theorem ex_ret_v {pc : Nat} {ls : List (Option me_V)} {M : me_M} (d : decode (xC X) pc = .ok (.return_, 1)) (hr : xR X = 0) (hq : Q (none) M) : EX el X pc ls [] M Q :=
  ⟨none, M, fun J hJ => (hJ 75 : me_rule el X (none) M J 75) pc ls d hr rfl, hq⟩
theorem ex_tab {pc : Nat} {ls : List (Option me_V)} {st : List me_V} {M : me_M} {x : Int32} {dflt lo hi : Int} {offs : Array Int} {len : Nat} (_d : decode (xC X) pc = .ok (.tableswitch dflt lo hi offs, len)) (k1 : x.toInt < lo ∨ hi < x.toInt → EX el X pc ls (.inl x :: st) M Q) (k2 : ¬ x.toInt < lo → ¬ hi < x.toInt → EX el X pc ls (.inl x :: st) M Q) : EX el X pc ls (.inl x :: st) M Q := by
  by_cases h : x.toInt < lo ∨ hi < x.toInt
  · exact k1 h
  · exact k2 (fun z => h (Or.inl z)) (fun z => h (Or.inr z))
theorem ex_tabAt {pc : Nat} {ls : List (Option me_V)} {st : List me_V} {M : me_M} {x c : Int32} {dflt lo hi : Int} {offs : Array Int} {len : Nat} {off : Int} {tgt : Nat} (d : decode (xC X) pc = .ok (.tableswitch dflt lo hi offs, len)) (hx : x = c) (h1 : ¬ c.toInt < lo) (h2 : ¬ hi < c.toInt) (ho : offs[(c.toInt - lo).toNat]? = some off) (ht : (pc : Int) + off = (tgt : Int)) (kk : EX el X tgt ls st M Q) : EX el X pc ls (.inl x :: st) M Q := by
  subst hx
  exact ex_tabIn d h1 h2 ho ht kk
theorem me_cases7 {x : Int32} (h1 : ¬ x.toInt < 0) (h2 : ¬ 6 < x.toInt) : x = 0 ∨ x = 1 ∨ x = 2 ∨ x = 3 ∨ x = 4 ∨ x = 5 ∨ x = 6 := by
  have h : x.toInt = 0 ∨ x.toInt = 1 ∨ x.toInt = 2 ∨ x.toInt = 3 ∨ x.toInt = 4 ∨ x.toInt = 5 ∨ x.toInt = 6 := by omega
  rcases h with h | h | h | h | h | h | h
  · exact Or.inl (Int32.toInt_inj.mp (h.trans (by decide)))
  · exact Or.inr (Or.inl (Int32.toInt_inj.mp (h.trans (by decide))))
  · exact Or.inr (Or.inr (Or.inl (Int32.toInt_inj.mp (h.trans (by decide)))))
  · exact Or.inr (Or.inr (Or.inr (Or.inl (Int32.toInt_inj.mp (h.trans (by decide))))))
  · exact Or.inr (Or.inr (Or.inr (Or.inr (Or.inl (Int32.toInt_inj.mp (h.trans (by decide)))))))
  · exact Or.inr (Or.inr (Or.inr (Or.inr (Or.inr (Or.inl (Int32.toInt_inj.mp (h.trans (by decide))))))))
  · exact Or.inr (Or.inr (Or.inr (Or.inr (Or.inr (Or.inr (Int32.toInt_inj.mp (h.trans (by decide))))))))
theorem me_cases17 {x : Int32} (h1 : ¬ x.toInt < 0) (h2 : ¬ 16 < x.toInt) : x = 0 ∨ x = 1 ∨ x = 2 ∨ x = 3 ∨ x = 4 ∨ x = 5 ∨ x = 6 ∨ x = 7 ∨ x = 8 ∨ x = 9 ∨ x = 10 ∨ x = 11 ∨ x = 12 ∨ x = 13 ∨ x = 14 ∨ x = 15 ∨ x = 16 := by
  have h : x.toInt = 0 ∨ x.toInt = 1 ∨ x.toInt = 2 ∨ x.toInt = 3 ∨ x.toInt = 4 ∨ x.toInt = 5 ∨ x.toInt = 6 ∨ x.toInt = 7 ∨ x.toInt = 8 ∨ x.toInt = 9 ∨ x.toInt = 10 ∨ x.toInt = 11 ∨ x.toInt = 12 ∨ x.toInt = 13 ∨ x.toInt = 14 ∨ x.toInt = 15 ∨ x.toInt = 16 := by omega
  rcases h with h | h | h | h | h | h | h | h | h | h | h | h | h | h | h | h | h
  · exact Or.inl (Int32.toInt_inj.mp (h.trans (by decide)))
  · exact Or.inr (Or.inl (Int32.toInt_inj.mp (h.trans (by decide))))
  · exact Or.inr (Or.inr (Or.inl (Int32.toInt_inj.mp (h.trans (by decide)))))
  · exact Or.inr (Or.inr (Or.inr (Or.inl (Int32.toInt_inj.mp (h.trans (by decide))))))
  · exact Or.inr (Or.inr (Or.inr (Or.inr (Or.inl (Int32.toInt_inj.mp (h.trans (by decide)))))))
  · exact Or.inr (Or.inr (Or.inr (Or.inr (Or.inr (Or.inl (Int32.toInt_inj.mp (h.trans (by decide))))))))
  · exact Or.inr (Or.inr (Or.inr (Or.inr (Or.inr (Or.inr (Or.inl (Int32.toInt_inj.mp (h.trans (by decide)))))))))
  · exact Or.inr (Or.inr (Or.inr (Or.inr (Or.inr (Or.inr (Or.inr (Or.inl (Int32.toInt_inj.mp (h.trans (by decide))))))))))
  · exact Or.inr (Or.inr (Or.inr (Or.inr (Or.inr (Or.inr (Or.inr (Or.inr (Or.inl (Int32.toInt_inj.mp (h.trans (by decide)))))))))))
  · exact Or.inr (Or.inr (Or.inr (Or.inr (Or.inr (Or.inr (Or.inr (Or.inr (Or.inr (Or.inl (Int32.toInt_inj.mp (h.trans (by decide))))))))))))
  · exact Or.inr (Or.inr (Or.inr (Or.inr (Or.inr (Or.inr (Or.inr (Or.inr (Or.inr (Or.inr (Or.inl (Int32.toInt_inj.mp (h.trans (by decide)))))))))))))
  · exact Or.inr (Or.inr (Or.inr (Or.inr (Or.inr (Or.inr (Or.inr (Or.inr (Or.inr (Or.inr (Or.inr (Or.inl (Int32.toInt_inj.mp (h.trans (by decide))))))))))))))
  · exact Or.inr (Or.inr (Or.inr (Or.inr (Or.inr (Or.inr (Or.inr (Or.inr (Or.inr (Or.inr (Or.inr (Or.inr (Or.inl (Int32.toInt_inj.mp (h.trans (by decide)))))))))))))))
  · exact Or.inr (Or.inr (Or.inr (Or.inr (Or.inr (Or.inr (Or.inr (Or.inr (Or.inr (Or.inr (Or.inr (Or.inr (Or.inr (Or.inl (Int32.toInt_inj.mp (h.trans (by decide))))))))))))))))
  · exact Or.inr (Or.inr (Or.inr (Or.inr (Or.inr (Or.inr (Or.inr (Or.inr (Or.inr (Or.inr (Or.inr (Or.inr (Or.inr (Or.inr (Or.inl (Int32.toInt_inj.mp (h.trans (by decide)))))))))))))))))
  · exact Or.inr (Or.inr (Or.inr (Or.inr (Or.inr (Or.inr (Or.inr (Or.inr (Or.inr (Or.inr (Or.inr (Or.inr (Or.inr (Or.inr (Or.inr (Or.inl (Int32.toInt_inj.mp (h.trans (by decide))))))))))))))))))
  · exact Or.inr (Or.inr (Or.inr (Or.inr (Or.inr (Or.inr (Or.inr (Or.inr (Or.inr (Or.inr (Or.inr (Or.inr (Or.inr (Or.inr (Or.inr (Or.inr (Int32.toInt_inj.mp (h.trans (by decide))))))))))))))))))
theorem me_100 {a n : Nat} (h : n = a) (ha : 100 ≤ a) : 100 ≤ n := by omega
def me_cS (el : Nat → Nat) (Y : me_X) (nA mL : Nat) (as : List me_V) (M : me_M) (r : Option me_V) (M1 : me_M) : Prop := as.length = nA ∧ RUN el Y 0 (as.map some ++ List.replicate (mL - nA) none) [] M r M1
def me_cV (el : Nat → Nat) (Y : me_X) (nA mL ci : Nat) (as : List me_V) (M : me_M) (r : Option me_V) (M1 : me_M) : Prop := (∃ b t, as = .inr (some b) :: t ∧ mKd M b = ci + 1) ∧ as.length = nA ∧ RUN el Y 0 (as.map some ++ List.replicate (mL - nA) none) [] M r M1
def me_max (x y : Int32) : Int32 := if x < y then y else x
def me_cMax (as : List me_V) (M : me_M) (r : Option me_V) (M1 : me_M) : Prop := ∃ x y : Int32, as = [.inl x, .inl y] ∧ r = some (.inl (me_max x y)) ∧ M1 = M
theorem ex_cS0 {pc : Nat} {ls ls0 : List (Option me_V)} {st stk as : List me_V} {M : me_M} {Y : me_X} {nA mL : Nat} (hs : stk = as.reverse ++ st) (hc : xCall X pc = me_cS el Y nA mL) (hn : as.length = nA) (h0 : as.map some ++ List.replicate (mL - nA) none = ls0) (hl : st.length ≤ 8)
    (he : EX el Y 0 ls0 [] M (fun r M1 => EX el X (pc + 3) ls (r.toList ++ st) M1 Q)) : EX el X pc ls stk M Q := by
  subst hs h0
  obtain ⟨r, M1, h1, v, N, h2, h3⟩ := he
  exact ⟨v, N, fun J hJ => (hJ 67 : me_rule el X v N J 67) pc ls st M as r M1 (by rw [hc]; exact ⟨hn, h1⟩) hl (h2 J hJ), h3⟩
theorem ex_cV0 {pc : Nat} {ls ls0 : List (Option me_V)} {st stk as : List me_V} {M : me_M} {Y : me_X} {nA mL ci b : Nat} {x0 : Option Nat} (hr : x0 = some b) (hs : stk = (.inr x0 :: as).reverse ++ st) (hk : mKd M b = ci + 1) (hc : xCall X pc = me_cV el Y nA mL ci) (hn : as.length + 1 = nA) (h0 : (some (.inr (some b)) :: as.map some) ++ List.replicate (mL - nA) none = ls0) (hl : st.length ≤ 8)
    (he : EX el Y 0 ls0 [] M (fun r M1 => EX el X (pc + 3) ls (r.toList ++ st) M1 Q)) : EX el X pc ls stk M Q := by
  subst hr hs h0
  obtain ⟨r, M1, h1, v, N, h2, h3⟩ := he
  exact ⟨v, N, fun J hJ => (hJ 67 : me_rule el X v N J 67) pc ls st M (.inr (some b) :: as) r M1 (by rw [hc]; exact ⟨⟨b, as, rfl, hk⟩, hn, h1⟩) hl (h2 J hJ), h3⟩
theorem ex_max {pc : Nat} {ls : List (Option me_V)} {st : List me_V} {M : me_M} {x y : Int32} (hc : xCall X pc = me_cMax) (hl : st.length ≤ 8) (kk : EX el X (pc + 3) ls (.inl (me_max x y) :: st) M Q) : EX el X pc ls (.inl y :: .inl x :: st) M Q := by
  obtain ⟨v, N, h2, h3⟩ := kk
  exact ⟨v, N, fun J hJ => (hJ 67 : me_rule el X v N J 67) pc ls st M [.inl x, .inl y] (some (.inl (me_max x y))) M (by rw [hc]; exact ⟨x, y, rfl, rfl, rfl⟩) hl (h2 J hJ), h3⟩
theorem ex_cSV {pc : Nat} {ls ls0 : List (Option me_V)} {st stk as : List me_V} {M : me_M} {Y : me_X} {nA mL : Nat} (hs : stk = as.reverse ++ st) (hc : xCall X pc = me_cS el Y nA mL) (hn : as.length = nA) (h0 : as.map some ++ List.replicate (mL - nA) none = ls0) (hl : st.length ≤ 8) (he : EX el Y 0 ls0 [] M (fun r M1 => r = none ∧ EX el X (pc + 3) ls st M1 Q)) : EX el X pc ls stk M Q := by
  refine ex_cS0 hs hc hn h0 hl (EX.mono he fun r M1 h => ?_)
  obtain ⟨rfl, h⟩ := h
  exact h
theorem ex_cVV {pc : Nat} {ls ls0 : List (Option me_V)} {st stk as : List me_V} {M : me_M} {Y : me_X} {nA mL ci b : Nat} {x0 : Option Nat} (hr : x0 = some b) (hs : stk = (.inr x0 :: as).reverse ++ st) (hk : mKd M b = ci + 1) (hc : xCall X pc = me_cV el Y nA mL ci) (hn : as.length + 1 = nA) (h0 : (some (.inr (some b)) :: as.map some) ++ List.replicate (mL - nA) none = ls0) (hl : st.length ≤ 8) (he : EX el Y 0 ls0 [] M (fun r M1 => r = none ∧ EX el X (pc + 3) ls st M1 Q)) : EX el X pc ls stk M Q := by
  refine ex_cV0 hr hs hk hc hn h0 hl (EX.mono he fun r M1 h => ?_)
  obtain ⟨rfl, h⟩ := h
  exact h
theorem ex_cSI {pc : Nat} {ls ls0 : List (Option me_V)} {st stk as : List me_V} {M : me_M} {Y : me_X} {nA mL : Nat} (hs : stk = as.reverse ++ st) (hc : xCall X pc = me_cS el Y nA mL) (hn : as.length = nA) (h0 : as.map some ++ List.replicate (mL - nA) none = ls0) (hl : st.length ≤ 8) (he : EX el Y 0 ls0 [] M (fun r M1 => ∃ x, r = some (.inl x) ∧ EX el X (pc + 3) ls (.inl x :: st) M1 Q)) : EX el X pc ls stk M Q := by
  refine ex_cS0 hs hc hn h0 hl (EX.mono he fun r M1 h => ?_)
  obtain ⟨x, rfl, h⟩ := h
  exact h
theorem ex_cVI {pc : Nat} {ls ls0 : List (Option me_V)} {st stk as : List me_V} {M : me_M} {Y : me_X} {nA mL ci b : Nat} {x0 : Option Nat} (hr : x0 = some b) (hs : stk = (.inr x0 :: as).reverse ++ st) (hk : mKd M b = ci + 1) (hc : xCall X pc = me_cV el Y nA mL ci) (hn : as.length + 1 = nA) (h0 : (some (.inr (some b)) :: as.map some) ++ List.replicate (mL - nA) none = ls0) (hl : st.length ≤ 8) (he : EX el Y 0 ls0 [] M (fun r M1 => ∃ x, r = some (.inl x) ∧ EX el X (pc + 3) ls (.inl x :: st) M1 Q)) : EX el X pc ls stk M Q := by
  refine ex_cV0 hr hs hk hc hn h0 hl (EX.mono he fun r M1 h => ?_)
  obtain ⟨x, rfl, h⟩ := h
  exact h
theorem ex_cSR {pc : Nat} {ls ls0 : List (Option me_V)} {st stk as : List me_V} {M : me_M} {Y : me_X} {nA mL : Nat} (hs : stk = as.reverse ++ st) (hc : xCall X pc = me_cS el Y nA mL) (hn : as.length = nA) (h0 : as.map some ++ List.replicate (mL - nA) none = ls0) (hl : st.length ≤ 8) (he : EX el Y 0 ls0 [] M (fun r M1 => ∃ x, r = some (.inr x) ∧ EX el X (pc + 3) ls (.inr x :: st) M1 Q)) : EX el X pc ls stk M Q := by
  refine ex_cS0 hs hc hn h0 hl (EX.mono he fun r M1 h => ?_)
  obtain ⟨x, rfl, h⟩ := h
  exact h
theorem ex_cVR {pc : Nat} {ls ls0 : List (Option me_V)} {st stk as : List me_V} {M : me_M} {Y : me_X} {nA mL ci b : Nat} {x0 : Option Nat} (hr : x0 = some b) (hs : stk = (.inr x0 :: as).reverse ++ st) (hk : mKd M b = ci + 1) (hc : xCall X pc = me_cV el Y nA mL ci) (hn : as.length + 1 = nA) (h0 : (some (.inr (some b)) :: as.map some) ++ List.replicate (mL - nA) none = ls0) (hl : st.length ≤ 8) (he : EX el Y 0 ls0 [] M (fun r M1 => ∃ x, r = some (.inr x) ∧ EX el X (pc + 3) ls (.inr x :: st) M1 Q)) : EX el X pc ls stk M Q := by
  refine ex_cV0 hr hs hk hc hn h0 hl (EX.mono he fun r M1 h => ?_)
  obtain ⟨x, rfl, h⟩ := h
  exact h
end EXR
def eL : Nat → Nat := fun a => match a with | 102 => 10 | 103 => 3 | 104 => 4 | 105 => 6 | 106 => 9 | _ => 0
end
section
/-! base; classes' numbers and slots; classes; array types (kind 100 + place); a field's type (0 int, 1 boolean, 2 a reference) -/
abbrev me_G : Type := Nat × va_G × List vw_C × List (ClassId × FieldType) × (Nat → Nat → Nat) × List Cond
abbrev gB (G : me_G) := G.1
abbrev gD (G : me_G) := G.2.1
abbrev gC (G : me_G) := G.2.2.1
abbrev gT (G : me_G) := G.2.2.2.1
abbrev gF (G : me_G) := G.2.2.2.2.1
abbrev gW (G : me_G) := G.2.2.2.2.2
/-- the words of nest mates, which no list of words keeps -/
def me_NW (G : me_G) : Prop := ∀ w ∈ gW G, (∃ (a : String) (i : Nat) (x : MethodName) (h : String), w = .methodLinkNest a i x h) ∨ ∃ C : String, w = .arrayOver (.object C)
def me_Nw (G : me_G) (U : State) : Prop := ∀ w ∈ gW G, va_Nw w U
theorem me_Nw.warm {G : me_G} (hG : me_NW G) {s U : State} (hW : s.WarmedH U.vm) (h : me_Nw G s) : me_Nw G U := by
  intro w hw
  rcases hG w hw with ⟨a, i, x, h1, rfl⟩ | ⟨C, rfl⟩
  · exact va_Nw.warmM hW (h _ hw)
  · exact va_AO.moved hW.alike (h _ hw)
def me_fv (G : me_G) (M : me_M) (ci k q : Nat) : me_V := if gF G ci k = 2 then .inr (mR M (1000 + 64 * ci + k) q 0) else .inl (mI M (1000 + 64 * ci + k) q 0)
def me_av (M : me_M) (a q j : Nat) : me_V := if 102 ≤ a then .inr (mR M a q j) else .inl (mI M a q j)
/-- the cell at q is what M says -/
def me_at (G : me_G) (M : me_M) (H : Heap) (q : Nat) : Prop :=
  (∀ ci, mKd M q = ci + 1 → ci < 99 → ∃ r : vw_C, (gC G)[ci]? = some r ∧ t_OB q ((gD G).1 ci) r.2.2 ((gD G).2 ci) H (fun k => me_v (me_fv G M ci k q))) ∧
  (100 ≤ mKd M q → ∃ t : ClassId × FieldType, (gT G)[mKd M q - 100]? = some t ∧ H[q]? = some (arrV t.1 (mLn M q) (fun j => me_v (me_av M (mKd M q) q j))))
def me_H (G : me_G) (M : me_M) (H : Heap) : Prop :=
  H.size = mSz M ∧ (∀ q, me_at G M H q) ∧ (∀ q, mSz M ≤ q → mKd M q = 0 ∧ ∀ k i, mI M k q i = 0 ∧ mR M k q i = none) ∧ (∀ q, mKd M q ≠ 0 → gB G ≤ q) ∧ gB G ≤ mSz M
theorem me_H.lt {G : me_G} {M : me_M} {H : Heap} (h : me_H G M H) {q : Nat} (hq : mKd M q ≠ 0) : q < mSz M := by
  refine Nat.lt_of_not_le fun hz => hq (h.2.2.1 q hz).1
/-- one cell is written -/
theorem me_H.write {G : me_G} {M N : me_M} {H H1 : Heap} (h : me_H G M H) (q : Nat) (hq : mKd M q ≠ 0) (e1 : mKd N = mKd M) (e2 : mLn N = mLn M) (e3 : mSz N = mSz M)
    (hI : ∀ k q' i, q' ≠ q → mI N k q' i = mI M k q' i) (hR : ∀ k q' i, q' ≠ q → mR N k q' i = mR M k q' i) (hz : H1.size = H.size) (ho : ∀ q', q' ≠ q → H1[q']? = H[q']?) (ha : me_at G N H1 q) : me_H G N H1 := by
  have hlt := h.lt hq
  obtain ⟨h1, h2, h3, h4, h5⟩ := h
  refine ⟨by rw [hz, e3]; exact h1, fun q' => ?_, fun q' hq' => ?_, fun q' hq' => h4 q' (by rw [← e1]; exact hq'), by rw [e3]; exact h5⟩
  · by_cases hqq : q' = q
    · rw [hqq]; exact ha
    · obtain ⟨a1, a2⟩ := h2 q'
      refine ⟨fun ci hk hci => ?_, fun hk => ?_⟩
      · rw [e1] at hk
        obtain ⟨r, b1, b2⟩ := a1 ci hk hci
        refine ⟨r, b1, (b2.kept (ho q' hqq)).to fun k _ => ?_⟩
        unfold me_fv
        rw [hI _ _ _ hqq, hR _ _ _ hqq]
      · rw [e1] at hk ⊢
        obtain ⟨t, b1, b2⟩ := a2 hk
        refine ⟨t, b1, ?_⟩
        rw [ho q' hqq, b2, e2]
        unfold me_av
        congr 2
        funext j
        rw [hI _ _ _ hqq, hR _ _ _ hqq]
  · rw [e3] at hq'
    have hne : q' ≠ q := by omega
    obtain ⟨b1, b2⟩ := h3 q' hq'
    refine ⟨by rw [e1]; exact b1, fun k i => ?_⟩
    rw [hI _ _ _ hne, hR _ _ _ hne]
    exact b2 k i
/-- a cell is made -/
theorem me_H.made {G : me_G} {M : me_M} {H H1 : Heap} (h : me_H G M H) (kd ln sl : Nat) (hz : H1.size = H.size + 1) (ho : ∀ q', q' < H.size → H1[q']? = H[q']?) (ha : me_at G (mNew M kd ln sl) H1 (mSz M)) : me_H G (mNew M kd ln sl) H1 := by
  have hl := @me_H.lt _ _ _ h
  obtain ⟨h1, h2, h3, h4, h5⟩ := h
  refine ⟨by rw [hz, h1]; rfl, fun q' => ?_, fun q' hq' => ?_, fun q' hq' => ?_, by rw [mSz_New]; omega⟩
  · by_cases hqq : q' = mSz M
    · rw [hqq]; exact ha
    · have ek : mKd (mNew M kd ln sl) q' = mKd M q' := by rw [mKd_New, if_neg hqq]
      have el : mLn (mNew M kd ln sl) q' = mLn M q' := by rw [mLn_New, if_neg hqq]
      obtain ⟨a1, a2⟩ := h2 q'
      refine ⟨fun ci hk hci => ?_, fun hk => ?_⟩
      · rw [ek] at hk
        obtain ⟨r, b1, b2⟩ := a1 ci hk hci
        have := hl (q := q') (by omega)
        exact ⟨r, b1, b2.kept (ho q' (by omega))⟩
      · rw [ek] at hk ⊢
        obtain ⟨t, b1, b2⟩ := a2 hk
        have := hl (q := q') (by omega)
        refine ⟨t, b1, ?_⟩
        rw [ho q' (by omega), b2, el]
        rfl
  · rw [mSz_New] at hq'
    obtain ⟨b1, b2⟩ := h3 q' (by omega)
    exact ⟨by rw [mKd_New, if_neg (by omega)]; exact b1, b2⟩
  · rw [mKd_New] at hq'
    by_cases hqq : q' = mSz M
    · omega
    · rw [if_neg hqq] at hq'
      exact h4 q' hq'
/-! locals -/
def me_lv (ls : List (Option me_V)) : List (Nat × Value) := ls.zipIdx.filterMap (fun z => z.1.map (fun x => (z.2, me_v x)))
theorem me_lv_mem {ls : List (Option me_V)} {j : Nat} {w : Value} : (j, w) ∈ me_lv ls ↔ ∃ x, ls[j]? = some (some x) ∧ w = me_v x := by
  unfold me_lv
  rw [List.mem_filterMap]
  constructor
  · rintro ⟨⟨o, i⟩, h1, h2⟩
    rw [List.mem_zipIdx_iff_getElem?] at h1
    cases o with
    | none => cases h2
    | some x =>
      simp only [Option.map_some, Option.some.injEq, Prod.mk.injEq] at h2
      obtain ⟨rfl, rfl⟩ := h2
      exact ⟨x, h1, rfl⟩
  · rintro ⟨x, h1, rfl⟩
    exact ⟨(some x, j), List.mem_zipIdx_iff_getElem?.mpr h1, rfl⟩
theorem me_cat (x : me_V) : (me_v x).category = 1 := by
  rcases x with n | (_ | a) <;> rfl
theorem me_ld {la : Array Slot} {nL : Nat} {ls : List (Option me_V)} (h : lv_has la nL (me_lv ls)) {k : Nat} {x : me_V} (hx : ls[k]? = some (some x)) : la[k]? = some (.val (me_v x)) := h.2.2 (k, me_v x) (me_lv_mem.mpr ⟨x, hx, rfl⟩)
theorem me_st {la : Array Slot} {nL : Nat} {ls : List (Option me_V)} {k : Nat} {x : me_V} (h : lv_has la nL ((k, me_v x) :: (me_lv ls).filter (fun q => !(q.1 == k) && !(q.1 + 1 == k && q.2.category == 2)))) : lv_has la nL (me_lv (ls.set k (some x))) := by
  refine ⟨h.1, h.2.1, fun q hq => ?_⟩
  obtain ⟨j, w⟩ := q
  obtain ⟨y, hy, rfl⟩ := me_lv_mem.mp hq
  rw [List.getElem?_set] at hy
  by_cases hj : k = j
  · subst hj
    rw [if_pos rfl] at hy
    split at hy
    · cases hy
      exact h.2.2 _ List.mem_cons_self
    · cases hy
  · rw [if_neg hj] at hy
    refine h.2.2 _ (List.mem_cons_of_mem _ (List.mem_filter.mpr ⟨me_lv_mem.mpr ⟨y, hy, rfl⟩, ?_⟩))
    have hj2 : ¬ j = k := fun z => hj z.symm
    simp [hj2, me_cat]
/-- the machine's side of the rules -/
def me_JW (p : Program) (l : Launch) (e : Env) (R : Room) (s : State) (m : MethodId) (args : Array Value) (below : List Frame) (meth : Method) (c : Code) (Q : State → Prop) (G : me_G) (nL sz0 sl0 : Nat) (H0 : Heap) (N : me_M) : me_J := fun pc ls st M =>
  mSz M ≤ mSz N ∧ mSl M ≤ mSl N ∧ ∀ (H : Heap) (locs : List Loc) (la : Array Slot), sz0 ≤ mSz M → sl0 ≤ mSl M → me_H G M H → (∀ q, q < gB G → H[q]? = H0[q]?) → (∀ q ∈ locs, gB G ≤ q.base) → lv_has la nL (me_lv ls) → ls.length = nL →
    W p l e R s m args below meth c H locs (mSz M - sz0) (mSl M - sl0) Q (F0 m pc la (st.map me_v))
section SND
variable {p : Program} {l : Launch} {e : Env} {R : Room} {s : State} {m : MethodId} {args : Array Value} {below : List Frame} {meth : Method} {c : Code} {Q : State → Prop}
variable {G : me_G} {nL sz0 sl0 : Nat} {H0 : Heap} {X : me_X} {v : Option me_V} {N : me_M} {el : Nat → Nat} {own : String}

theorem so_iconst (hx : p.tables.exec = Jvm.exec) (hb : c.code = xC X) : me_rule el X v N (me_JW p l e R s m args below meth c Q G nL sz0 sl0 H0 N) 0 := by
  intro pc ls st M n w d hw kk
  exact ⟨kk.1, kk.2.1, fun H locs la a1 a2 a3 a4 a5 a6 a7 => lv_iconst hx hb d hw (kk.2.2 H locs la a1 a2 a3 a4 a5 a6 a7)⟩
theorem so_bipush (hx : p.tables.exec = Jvm.exec) (hb : c.code = xC X) : me_rule el X v N (me_JW p l e R s m args below meth c Q G nL sz0 sl0 H0 N) 1 := by
  intro pc ls st M n w d hw kk
  exact ⟨kk.1, kk.2.1, fun H locs la a1 a2 a3 a4 a5 a6 a7 => lv_bipush hx hb d hw (kk.2.2 H locs la a1 a2 a3 a4 a5 a6 a7)⟩
theorem so_sipush (hx : p.tables.exec = Jvm.exec) (hb : c.code = xC X) : me_rule el X v N (me_JW p l e R s m args below meth c Q G nL sz0 sl0 H0 N) 2 := by
  intro pc ls st M n w d hw kk
  exact ⟨kk.1, kk.2.1, fun H locs la a1 a2 a3 a4 a5 a6 a7 => lv_sipush hx hb d hw (kk.2.2 H locs la a1 a2 a3 a4 a5 a6 a7)⟩
theorem so_ldc (hx : p.tables.exec = Jvm.exec) (hb : c.code = xC X) (hown : s.vm.findClass own = some m.cls) (hc : ∀ n w, xK X n = some w → (Jvm.Cond.constant own n w).before args s = true) : me_rule el X v N (me_JW p l e R s m args below meth c Q G nL sz0 sl0 H0 N) 3 := by
  intro pc ls st M n w d hw kk
  exact ⟨kk.1, kk.2.1, fun H locs la a1 a2 a3 a4 a5 a6 a7 => lv_ldc hx hb hown (hc _ _ hw) d (kk.2.2 H locs la a1 a2 a3 a4 a5 a6 a7)⟩
theorem so_null (hx : p.tables.exec = Jvm.exec) (hb : c.code = xC X) : me_rule el X v N (me_JW p l e R s m args below meth c Q G nL sz0 sl0 H0 N) 4 := by
  intro pc ls st M d kk
  exact ⟨kk.1, kk.2.1, fun H locs la a1 a2 a3 a4 a5 a6 a7 => lv_null hx hb d (kk.2.2 H locs la a1 a2 a3 a4 a5 a6 a7)⟩
theorem so_iload_n (hx : p.tables.exec = Jvm.exec) (hb : c.code = xC X) : me_rule el X v N (me_JW p l e R s m args below meth c Q G nL sz0 sl0 H0 N) 5 := by
  intro pc ls st M k x d hl kk
  exact ⟨kk.1, kk.2.1, fun H locs la a1 a2 a3 a4 a5 a6 a7 => lv_iload_n hx hb d rfl (me_ld a6 hl) (kk.2.2 H locs la a1 a2 a3 a4 a5 a6 a7)⟩
theorem so_iload (hx : p.tables.exec = Jvm.exec) (hb : c.code = xC X) : me_rule el X v N (me_JW p l e R s m args below meth c Q G nL sz0 sl0 H0 N) 6 := by
  intro pc ls st M k x d hl kk
  exact ⟨kk.1, kk.2.1, fun H locs la a1 a2 a3 a4 a5 a6 a7 => lv_iload hx hb d (me_ld a6 hl) (kk.2.2 H locs la a1 a2 a3 a4 a5 a6 a7)⟩
theorem so_aload_n (hx : p.tables.exec = Jvm.exec) (hb : c.code = xC X) : me_rule el X v N (me_JW p l e R s m args below meth c Q G nL sz0 sl0 H0 N) 7 := by
  intro pc ls st M k x d hl kk
  refine ⟨kk.1, kk.2.1, fun H locs la a1 a2 a3 a4 a5 a6 a7 => ?_⟩
  cases x with
  | none => exact lv_aload_nN hx hb d rfl (me_ld a6 hl) (kk.2.2 H locs la a1 a2 a3 a4 a5 a6 a7)
  | some a => exact lv_aload_n hx hb d rfl (me_ld a6 hl) (kk.2.2 H locs la a1 a2 a3 a4 a5 a6 a7)
theorem so_aload (hx : p.tables.exec = Jvm.exec) (hb : c.code = xC X) : me_rule el X v N (me_JW p l e R s m args below meth c Q G nL sz0 sl0 H0 N) 8 := by
  intro pc ls st M k x d hl kk
  refine ⟨kk.1, kk.2.1, fun H locs la a1 a2 a3 a4 a5 a6 a7 => ?_⟩
  cases x with
  | none => exact lv_aloadN hx hb d (me_ld a6 hl) (kk.2.2 H locs la a1 a2 a3 a4 a5 a6 a7)
  | some a => exact lv_aload hx hb d (me_ld a6 hl) (kk.2.2 H locs la a1 a2 a3 a4 a5 a6 a7)
theorem so_istore_n (hx : p.tables.exec = Jvm.exec) (hb : c.code = xC X) : me_rule el X v N (me_JW p l e R s m args below meth c Q G nL sz0 sl0 H0 N) 9 := by
  intro pc ls st M k x ls2 d hk hs kk
  exact ⟨kk.1, kk.2.1, fun H locs la a1 a2 a3 a4 a5 a6 a7 => lv_istore_n hx hb d rfl a6 (by rw [← a7]; exact hk) rfl (fun la2 a8 => by subst hs; exact kk.2.2 H locs la2 a1 a2 a3 a4 a5 (me_st a8) (by rw [List.length_set]; exact a7))⟩
theorem so_istore (hx : p.tables.exec = Jvm.exec) (hb : c.code = xC X) : me_rule el X v N (me_JW p l e R s m args below meth c Q G nL sz0 sl0 H0 N) 10 := by
  intro pc ls st M k x ls2 d hk hs kk
  exact ⟨kk.1, kk.2.1, fun H locs la a1 a2 a3 a4 a5 a6 a7 => lv_istore hx hb d a6 (by rw [← a7]; exact hk) rfl (fun la2 a8 => by subst hs; exact kk.2.2 H locs la2 a1 a2 a3 a4 a5 (me_st a8) (by rw [List.length_set]; exact a7))⟩
theorem so_astore_n (hx : p.tables.exec = Jvm.exec) (hb : c.code = xC X) : me_rule el X v N (me_JW p l e R s m args below meth c Q G nL sz0 sl0 H0 N) 11 := by
  intro pc ls st M k x ls2 d hk hs kk
  refine ⟨kk.1, kk.2.1, fun H locs la a1 a2 a3 a4 a5 a6 a7 => ?_⟩
  cases x with
  | none => exact lv_astore_nN hx hb d rfl a6 (by rw [← a7]; exact hk) rfl (fun la2 a8 => by subst hs; exact kk.2.2 H locs la2 a1 a2 a3 a4 a5 (me_st a8) (by rw [List.length_set]; exact a7))
  | some a => exact lv_astore_n hx hb d rfl a6 (by rw [← a7]; exact hk) rfl (fun la2 a8 => by subst hs; exact kk.2.2 H locs la2 a1 a2 a3 a4 a5 (me_st a8) (by rw [List.length_set]; exact a7))
theorem so_astore (hx : p.tables.exec = Jvm.exec) (hb : c.code = xC X) : me_rule el X v N (me_JW p l e R s m args below meth c Q G nL sz0 sl0 H0 N) 12 := by
  intro pc ls st M k x ls2 d hk hs kk
  refine ⟨kk.1, kk.2.1, fun H locs la a1 a2 a3 a4 a5 a6 a7 => ?_⟩
  cases x with
  | none => exact lv_astoreN hx hb d a6 (by rw [← a7]; exact hk) rfl (fun la2 a8 => by subst hs; exact kk.2.2 H locs la2 a1 a2 a3 a4 a5 (me_st a8) (by rw [List.length_set]; exact a7))
  | some a => exact lv_astore hx hb d a6 (by rw [← a7]; exact hk) rfl (fun la2 a8 => by subst hs; exact kk.2.2 H locs la2 a1 a2 a3 a4 a5 (me_st a8) (by rw [List.length_set]; exact a7))
theorem so_iinc (hx : p.tables.exec = Jvm.exec) (hb : c.code = xC X) : me_rule el X v N (me_JW p l e R s m args below meth c Q G nL sz0 sl0 H0 N) 13 := by
  intro pc ls st M k n x ls2 d hl hs kk
  refine ⟨kk.1, kk.2.1, fun H locs la a1 a2 a3 a4 a5 a6 a7 => ?_⟩
  obtain ⟨j, hj⟩ := List.getElem?_of_mem (me_lv_mem.mpr ⟨_, hl, rfl⟩)
  have hk : k < nL := by rw [← a7]; exact (List.getElem?_eq_some_iff.mp hl).1
  exact lv_iinc hx hb d a6 hj rfl hk rfl (fun la2 a8 => by subst hs; exact kk.2.2 H locs la2 a1 a2 a3 a4 a5 (me_st a8) (by rw [List.length_set]; exact a7))
theorem so_iadd (hx : p.tables.exec = Jvm.exec) (hb : c.code = xC X) : me_rule el X v N (me_JW p l e R s m args below meth c Q G nL sz0 sl0 H0 N) 14 := by
  intro pc ls st M x y d kk
  exact ⟨kk.1, kk.2.1, fun H locs la a1 a2 a3 a4 a5 a6 a7 => lv_iadd hx hb d (kk.2.2 H locs la a1 a2 a3 a4 a5 a6 a7)⟩
theorem so_isub (hx : p.tables.exec = Jvm.exec) (hb : c.code = xC X) : me_rule el X v N (me_JW p l e R s m args below meth c Q G nL sz0 sl0 H0 N) 15 := by
  intro pc ls st M x y d kk
  exact ⟨kk.1, kk.2.1, fun H locs la a1 a2 a3 a4 a5 a6 a7 => lv_isub hx hb d (kk.2.2 H locs la a1 a2 a3 a4 a5 a6 a7)⟩
theorem so_imul (hx : p.tables.exec = Jvm.exec) (hb : c.code = xC X) : me_rule el X v N (me_JW p l e R s m args below meth c Q G nL sz0 sl0 H0 N) 16 := by
  intro pc ls st M x y d kk
  exact ⟨kk.1, kk.2.1, fun H locs la a1 a2 a3 a4 a5 a6 a7 => lv_imul hx hb d (kk.2.2 H locs la a1 a2 a3 a4 a5 a6 a7)⟩
theorem so_iand (hx : p.tables.exec = Jvm.exec) (hb : c.code = xC X) : me_rule el X v N (me_JW p l e R s m args below meth c Q G nL sz0 sl0 H0 N) 17 := by
  intro pc ls st M x y d kk
  exact ⟨kk.1, kk.2.1, fun H locs la a1 a2 a3 a4 a5 a6 a7 => lv_iand hx hb d (kk.2.2 H locs la a1 a2 a3 a4 a5 a6 a7)⟩
theorem so_ior (hx : p.tables.exec = Jvm.exec) (hb : c.code = xC X) : me_rule el X v N (me_JW p l e R s m args below meth c Q G nL sz0 sl0 H0 N) 18 := by
  intro pc ls st M x y d kk
  exact ⟨kk.1, kk.2.1, fun H locs la a1 a2 a3 a4 a5 a6 a7 => lv_ior hx hb d (kk.2.2 H locs la a1 a2 a3 a4 a5 a6 a7)⟩
theorem so_ixor (hx : p.tables.exec = Jvm.exec) (hb : c.code = xC X) : me_rule el X v N (me_JW p l e R s m args below meth c Q G nL sz0 sl0 H0 N) 19 := by
  intro pc ls st M x y d kk
  exact ⟨kk.1, kk.2.1, fun H locs la a1 a2 a3 a4 a5 a6 a7 => lv_ixor hx hb d (kk.2.2 H locs la a1 a2 a3 a4 a5 a6 a7)⟩
theorem so_ishl (hx : p.tables.exec = Jvm.exec) (hb : c.code = xC X) : me_rule el X v N (me_JW p l e R s m args below meth c Q G nL sz0 sl0 H0 N) 20 := by
  intro pc ls st M x y d kk
  exact ⟨kk.1, kk.2.1, fun H locs la a1 a2 a3 a4 a5 a6 a7 => lv_ishl hx hb d (kk.2.2 H locs la a1 a2 a3 a4 a5 a6 a7)⟩
theorem so_ishr (hx : p.tables.exec = Jvm.exec) (hb : c.code = xC X) : me_rule el X v N (me_JW p l e R s m args below meth c Q G nL sz0 sl0 H0 N) 21 := by
  intro pc ls st M x y d kk
  exact ⟨kk.1, kk.2.1, fun H locs la a1 a2 a3 a4 a5 a6 a7 => lv_ishr hx hb d (kk.2.2 H locs la a1 a2 a3 a4 a5 a6 a7)⟩
theorem so_ineg (hx : p.tables.exec = Jvm.exec) (hb : c.code = xC X) : me_rule el X v N (me_JW p l e R s m args below meth c Q G nL sz0 sl0 H0 N) 24 := by
  intro pc ls st M x d kk
  exact ⟨kk.1, kk.2.1, fun H locs la a1 a2 a3 a4 a5 a6 a7 => lv_ineg hx hb d (kk.2.2 H locs la a1 a2 a3 a4 a5 a6 a7)⟩
theorem so_idiv (hx : p.tables.exec = Jvm.exec) (hb : c.code = xC X) : me_rule el X v N (me_JW p l e R s m args below meth c Q G nL sz0 sl0 H0 N) 22 := by
  intro pc ls st M x y d hy kk
  exact ⟨kk.1, kk.2.1, fun H locs la a1 a2 a3 a4 a5 a6 a7 => lv_idiv hx hb d hy (kk.2.2 H locs la a1 a2 a3 a4 a5 a6 a7)⟩
theorem so_irem (hx : p.tables.exec = Jvm.exec) (hb : c.code = xC X) : me_rule el X v N (me_JW p l e R s m args below meth c Q G nL sz0 sl0 H0 N) 23 := by
  intro pc ls st M x y d hy kk
  exact ⟨kk.1, kk.2.1, fun H locs la a1 a2 a3 a4 a5 a6 a7 => lv_irem hx hb d hy (kk.2.2 H locs la a1 a2 a3 a4 a5 a6 a7)⟩
theorem so_dup (hx : p.tables.exec = Jvm.exec) (hb : c.code = xC X) : me_rule el X v N (me_JW p l e R s m args below meth c Q G nL sz0 sl0 H0 N) 25 := by
  intro pc ls st M x d kk
  exact ⟨kk.1, kk.2.1, fun H locs la a1 a2 a3 a4 a5 a6 a7 => lv_dup hx hb d (me_cat x) (kk.2.2 H locs la a1 a2 a3 a4 a5 a6 a7)⟩
theorem so_pop (hx : p.tables.exec = Jvm.exec) (hb : c.code = xC X) : me_rule el X v N (me_JW p l e R s m args below meth c Q G nL sz0 sl0 H0 N) 26 := by
  intro pc ls st M x d kk
  exact ⟨kk.1, kk.2.1, fun H locs la a1 a2 a3 a4 a5 a6 a7 => lv_pop hx hb d (me_cat x) (kk.2.2 H locs la a1 a2 a3 a4 a5 a6 a7)⟩
theorem so_dup_x1 (hx : p.tables.exec = Jvm.exec) (hb : c.code = xC X) : me_rule el X v N (me_JW p l e R s m args below meth c Q G nL sz0 sl0 H0 N) 27 := by
  intro pc ls st M x y d kk
  exact ⟨kk.1, kk.2.1, fun H locs la a1 a2 a3 a4 a5 a6 a7 => lv_dup_x1 hx hb d (me_cat x) (me_cat y) (kk.2.2 H locs la a1 a2 a3 a4 a5 a6 a7)⟩
theorem so_dup_x2 (hx : p.tables.exec = Jvm.exec) (hb : c.code = xC X) : me_rule el X v N (me_JW p l e R s m args below meth c Q G nL sz0 sl0 H0 N) 28 := by
  intro pc ls st M x y z d kk
  exact ⟨kk.1, kk.2.1, fun H locs la a1 a2 a3 a4 a5 a6 a7 => lv_dup_x2 hx hb d (me_cat x) (me_cat y) (me_cat z) (kk.2.2 H locs la a1 a2 a3 a4 a5 a6 a7)⟩
theorem so_dup2 (hx : p.tables.exec = Jvm.exec) (hb : c.code = xC X) : me_rule el X v N (me_JW p l e R s m args below meth c Q G nL sz0 sl0 H0 N) 29 := by
  intro pc ls st M x y d kk
  exact ⟨kk.1, kk.2.1, fun H locs la a1 a2 a3 a4 a5 a6 a7 => lv_dup2_11 hx hb d (me_cat x) (me_cat y) (kk.2.2 H locs la a1 a2 a3 a4 a5 a6 a7)⟩
theorem so_if_eq (hx : p.tables.exec = Jvm.exec) (hb : c.code = xC X) : me_rule el X v N (me_JW p l e R s m args below meth c Q G nL sz0 sl0 H0 N) 30 := by
  intro pc ls st M x off tgt d ht kt kf
  refine ⟨?_, ?_, fun H locs la a1 a2 a3 a4 a5 a6 a7 => ?_⟩
  · by_cases hg : x = 0
    · exact (kt hg).1
    · exact (kf hg).1
  · by_cases hg : x = 0
    · exact (kt hg).2.1
    · exact (kf hg).2.1
  · exact lv_if_eq hx hb d ht (fun h => (kt h).2.2 H locs la a1 a2 a3 a4 a5 a6 a7) (fun h => (kf h).2.2 H locs la a1 a2 a3 a4 a5 a6 a7)
theorem so_icmp_eq (hx : p.tables.exec = Jvm.exec) (hb : c.code = xC X) : me_rule el X v N (me_JW p l e R s m args below meth c Q G nL sz0 sl0 H0 N) 36 := by
  intro pc ls st M x y off tgt d ht kt kf
  refine ⟨?_, ?_, fun H locs la a1 a2 a3 a4 a5 a6 a7 => ?_⟩
  · by_cases hg : x = y
    · exact (kt hg).1
    · exact (kf hg).1
  · by_cases hg : x = y
    · exact (kt hg).2.1
    · exact (kf hg).2.1
  · exact lv_icmp_eq hx hb d ht (fun h => (kt h).2.2 H locs la a1 a2 a3 a4 a5 a6 a7) (fun h => (kf h).2.2 H locs la a1 a2 a3 a4 a5 a6 a7)
theorem so_if_ne (hx : p.tables.exec = Jvm.exec) (hb : c.code = xC X) : me_rule el X v N (me_JW p l e R s m args below meth c Q G nL sz0 sl0 H0 N) 31 := by
  intro pc ls st M x off tgt d ht kt kf
  refine ⟨?_, ?_, fun H locs la a1 a2 a3 a4 a5 a6 a7 => ?_⟩
  · by_cases hg : x = 0
    · exact (kf hg).1
    · exact (kt hg).1
  · by_cases hg : x = 0
    · exact (kf hg).2.1
    · exact (kt hg).2.1
  · exact lv_if_ne hx hb d ht (fun h => (kt h).2.2 H locs la a1 a2 a3 a4 a5 a6 a7) (fun h => (kf h).2.2 H locs la a1 a2 a3 a4 a5 a6 a7)
theorem so_icmp_ne (hx : p.tables.exec = Jvm.exec) (hb : c.code = xC X) : me_rule el X v N (me_JW p l e R s m args below meth c Q G nL sz0 sl0 H0 N) 37 := by
  intro pc ls st M x y off tgt d ht kt kf
  refine ⟨?_, ?_, fun H locs la a1 a2 a3 a4 a5 a6 a7 => ?_⟩
  · by_cases hg : x = y
    · exact (kf hg).1
    · exact (kt hg).1
  · by_cases hg : x = y
    · exact (kf hg).2.1
    · exact (kt hg).2.1
  · exact lv_icmp_ne hx hb d ht (fun h => (kt h).2.2 H locs la a1 a2 a3 a4 a5 a6 a7) (fun h => (kf h).2.2 H locs la a1 a2 a3 a4 a5 a6 a7)
theorem so_if_lt (hx : p.tables.exec = Jvm.exec) (hb : c.code = xC X) : me_rule el X v N (me_JW p l e R s m args below meth c Q G nL sz0 sl0 H0 N) 32 := by
  intro pc ls st M x off tgt d ht kt kf
  refine ⟨?_, ?_, fun H locs la a1 a2 a3 a4 a5 a6 a7 => ?_⟩
  · by_cases hg : x < 0
    · exact (kt hg).1
    · exact (kf hg).1
  · by_cases hg : x < 0
    · exact (kt hg).2.1
    · exact (kf hg).2.1
  · exact lv_if_lt hx hb d ht (fun h => (kt h).2.2 H locs la a1 a2 a3 a4 a5 a6 a7) (fun h => (kf h).2.2 H locs la a1 a2 a3 a4 a5 a6 a7)
theorem so_icmp_lt (hx : p.tables.exec = Jvm.exec) (hb : c.code = xC X) : me_rule el X v N (me_JW p l e R s m args below meth c Q G nL sz0 sl0 H0 N) 38 := by
  intro pc ls st M x y off tgt d ht kt kf
  refine ⟨?_, ?_, fun H locs la a1 a2 a3 a4 a5 a6 a7 => ?_⟩
  · by_cases hg : x < y
    · exact (kt hg).1
    · exact (kf hg).1
  · by_cases hg : x < y
    · exact (kt hg).2.1
    · exact (kf hg).2.1
  · exact lv_icmp_lt hx hb d ht (fun h => (kt h).2.2 H locs la a1 a2 a3 a4 a5 a6 a7) (fun h => (kf h).2.2 H locs la a1 a2 a3 a4 a5 a6 a7)
theorem so_if_ge (hx : p.tables.exec = Jvm.exec) (hb : c.code = xC X) : me_rule el X v N (me_JW p l e R s m args below meth c Q G nL sz0 sl0 H0 N) 33 := by
  intro pc ls st M x off tgt d ht kt kf
  refine ⟨?_, ?_, fun H locs la a1 a2 a3 a4 a5 a6 a7 => ?_⟩
  · by_cases hg : 0 ≤ x
    · exact (kt hg).1
    · exact (kf hg).1
  · by_cases hg : 0 ≤ x
    · exact (kt hg).2.1
    · exact (kf hg).2.1
  · exact lv_if_ge hx hb d ht (fun h => (kt h).2.2 H locs la a1 a2 a3 a4 a5 a6 a7) (fun h => (kf h).2.2 H locs la a1 a2 a3 a4 a5 a6 a7)
theorem so_icmp_ge (hx : p.tables.exec = Jvm.exec) (hb : c.code = xC X) : me_rule el X v N (me_JW p l e R s m args below meth c Q G nL sz0 sl0 H0 N) 39 := by
  intro pc ls st M x y off tgt d ht kt kf
  refine ⟨?_, ?_, fun H locs la a1 a2 a3 a4 a5 a6 a7 => ?_⟩
  · by_cases hg : y ≤ x
    · exact (kt hg).1
    · exact (kf hg).1
  · by_cases hg : y ≤ x
    · exact (kt hg).2.1
    · exact (kf hg).2.1
  · exact lv_icmp_ge hx hb d ht (fun h => (kt h).2.2 H locs la a1 a2 a3 a4 a5 a6 a7) (fun h => (kf h).2.2 H locs la a1 a2 a3 a4 a5 a6 a7)
theorem so_if_gt (hx : p.tables.exec = Jvm.exec) (hb : c.code = xC X) : me_rule el X v N (me_JW p l e R s m args below meth c Q G nL sz0 sl0 H0 N) 34 := by
  intro pc ls st M x off tgt d ht kt kf
  refine ⟨?_, ?_, fun H locs la a1 a2 a3 a4 a5 a6 a7 => ?_⟩
  · by_cases hg : 0 < x
    · exact (kt hg).1
    · exact (kf hg).1
  · by_cases hg : 0 < x
    · exact (kt hg).2.1
    · exact (kf hg).2.1
  · exact lv_if_gt hx hb d ht (fun h => (kt h).2.2 H locs la a1 a2 a3 a4 a5 a6 a7) (fun h => (kf h).2.2 H locs la a1 a2 a3 a4 a5 a6 a7)
theorem so_icmp_gt (hx : p.tables.exec = Jvm.exec) (hb : c.code = xC X) : me_rule el X v N (me_JW p l e R s m args below meth c Q G nL sz0 sl0 H0 N) 40 := by
  intro pc ls st M x y off tgt d ht kt kf
  refine ⟨?_, ?_, fun H locs la a1 a2 a3 a4 a5 a6 a7 => ?_⟩
  · by_cases hg : y < x
    · exact (kt hg).1
    · exact (kf hg).1
  · by_cases hg : y < x
    · exact (kt hg).2.1
    · exact (kf hg).2.1
  · exact lv_icmp_gt hx hb d ht (fun h => (kt h).2.2 H locs la a1 a2 a3 a4 a5 a6 a7) (fun h => (kf h).2.2 H locs la a1 a2 a3 a4 a5 a6 a7)
theorem so_if_le (hx : p.tables.exec = Jvm.exec) (hb : c.code = xC X) : me_rule el X v N (me_JW p l e R s m args below meth c Q G nL sz0 sl0 H0 N) 35 := by
  intro pc ls st M x off tgt d ht kt kf
  refine ⟨?_, ?_, fun H locs la a1 a2 a3 a4 a5 a6 a7 => ?_⟩
  · by_cases hg : x ≤ 0
    · exact (kt hg).1
    · exact (kf hg).1
  · by_cases hg : x ≤ 0
    · exact (kt hg).2.1
    · exact (kf hg).2.1
  · exact lv_if_le hx hb d ht (fun h => (kt h).2.2 H locs la a1 a2 a3 a4 a5 a6 a7) (fun h => (kf h).2.2 H locs la a1 a2 a3 a4 a5 a6 a7)
theorem so_icmp_le (hx : p.tables.exec = Jvm.exec) (hb : c.code = xC X) : me_rule el X v N (me_JW p l e R s m args below meth c Q G nL sz0 sl0 H0 N) 41 := by
  intro pc ls st M x y off tgt d ht kt kf
  refine ⟨?_, ?_, fun H locs la a1 a2 a3 a4 a5 a6 a7 => ?_⟩
  · by_cases hg : x ≤ y
    · exact (kt hg).1
    · exact (kf hg).1
  · by_cases hg : x ≤ y
    · exact (kt hg).2.1
    · exact (kf hg).2.1
  · exact lv_icmp_le hx hb d ht (fun h => (kt h).2.2 H locs la a1 a2 a3 a4 a5 a6 a7) (fun h => (kf h).2.2 H locs la a1 a2 a3 a4 a5 a6 a7)
theorem so_acmp_eq (hx : p.tables.exec = Jvm.exec) (hb : c.code = xC X) : me_rule el X v N (me_JW p l e R s m args below meth c Q G nL sz0 sl0 H0 N) 42 := by
  intro pc ls st M x y off tgt d ht kt kf
  refine ⟨?_, ?_, fun H locs la a1 a2 a3 a4 a5 a6 a7 => ?_⟩
  · by_cases hg : x = y
    · exact (kt hg).1
    · exact (kf hg).1
  · by_cases hg : x = y
    · exact (kt hg).2.1
    · exact (kf hg).2.1
  · exact lv_acmp_eq hx hb d ht (fun h => (kt h).2.2 H locs la a1 a2 a3 a4 a5 a6 a7) (fun h => (kf h).2.2 H locs la a1 a2 a3 a4 a5 a6 a7)
theorem so_acmp_ne (hx : p.tables.exec = Jvm.exec) (hb : c.code = xC X) : me_rule el X v N (me_JW p l e R s m args below meth c Q G nL sz0 sl0 H0 N) 43 := by
  intro pc ls st M x y off tgt d ht kt kf
  refine ⟨?_, ?_, fun H locs la a1 a2 a3 a4 a5 a6 a7 => ?_⟩
  · by_cases hg : x = y
    · exact (kf hg).1
    · exact (kt hg).1
  · by_cases hg : x = y
    · exact (kf hg).2.1
    · exact (kt hg).2.1
  · exact lv_acmp_ne hx hb d ht (fun h => (kt h).2.2 H locs la a1 a2 a3 a4 a5 a6 a7) (fun h => (kf h).2.2 H locs la a1 a2 a3 a4 a5 a6 a7)
theorem so_ifnull (hx : p.tables.exec = Jvm.exec) (hb : c.code = xC X) : me_rule el X v N (me_JW p l e R s m args below meth c Q G nL sz0 sl0 H0 N) 44 := by
  intro pc ls st M x off tgt d ht kt kf
  refine ⟨?_, ?_, fun H locs la a1 a2 a3 a4 a5 a6 a7 => ?_⟩
  · by_cases hg : x = none
    · exact (kt hg).1
    · exact (kf hg).1
  · by_cases hg : x = none
    · exact (kt hg).2.1
    · exact (kf hg).2.1
  · cases x with
    | none => exact lv_ifnullN hx hb d ht ((kt rfl).2.2 H locs la a1 a2 a3 a4 a5 a6 a7)
    | some a => exact lv_ifnull hx hb d ((kf (fun z => by cases z)).2.2 H locs la a1 a2 a3 a4 a5 a6 a7)
theorem so_ifnonnull (hx : p.tables.exec = Jvm.exec) (hb : c.code = xC X) : me_rule el X v N (me_JW p l e R s m args below meth c Q G nL sz0 sl0 H0 N) 45 := by
  intro pc ls st M x off tgt d ht kt kf
  refine ⟨?_, ?_, fun H locs la a1 a2 a3 a4 a5 a6 a7 => ?_⟩
  · by_cases hg : x = none
    · exact (kf hg).1
    · exact (kt hg).1
  · by_cases hg : x = none
    · exact (kf hg).2.1
    · exact (kt hg).2.1
  · cases x with
    | none => exact lv_ifnonnullN hx hb d ((kf rfl).2.2 H locs la a1 a2 a3 a4 a5 a6 a7)
    | some a => exact lv_ifnonnull hx hb d ht ((kt (fun z => by cases z)).2.2 H locs la a1 a2 a3 a4 a5 a6 a7)
theorem me_dr {la : Array Slot} {nL : Nat} {ls : List (Option me_V)} {k : Nat} (h : lv_has la nL (me_lv ls)) : lv_has la nL (me_lv (ls.set k none)) := by
  refine ⟨h.1, h.2.1, fun q hq => ?_⟩
  obtain ⟨j, w⟩ := q
  obtain ⟨y, hy, rfl⟩ := me_lv_mem.mp hq
  rw [List.getElem?_set] at hy
  by_cases hj : k = j
  · rw [if_pos hj] at hy
    split at hy <;> cases hy
  · rw [if_neg hj] at hy
    exact h.2.2 _ (me_lv_mem.mpr ⟨y, hy, rfl⟩)
theorem so_drop (_hx : p.tables.exec = Jvm.exec) (_hb : c.code = xC X) : me_rule el X v N (me_JW p l e R s m args below meth c Q G nL sz0 sl0 H0 N) 69 := by
  intro pc ls st M k ls2 hs kk
  refine ⟨kk.1, kk.2.1, fun H locs la a1 a2 a3 a4 a5 a6 a7 => ?_⟩
  subst hs
  exact kk.2.2 H locs la a1 a2 a3 a4 a5 (me_dr a6) (by rw [List.length_set]; exact a7)
theorem so_goto (hx : p.tables.exec = Jvm.exec) (hb : c.code = xC X) : me_rule el X v N (me_JW p l e R s m args below meth c Q G nL sz0 sl0 H0 N) 46 := by
  intro pc ls st M off tgt d ht kk
  exact ⟨kk.1, kk.2.1, fun H locs la a1 a2 a3 a4 a5 a6 a7 => lv_goto hx hb d ht (kk.2.2 H locs la a1 a2 a3 a4 a5 a6 a7)⟩
theorem so_tabIn (hx : p.tables.exec = Jvm.exec) (hb : c.code = xC X) : me_rule el X v N (me_JW p l e R s m args below meth c Q G nL sz0 sl0 H0 N) 47 := by
  intro pc ls st M x dflt lo hi offs len off tgt d h1 h2 ho ht kk
  exact ⟨kk.1, kk.2.1, fun H locs la a1 a2 a3 a4 a5 a6 a7 => lv_tableIn hx hb d h1 h2 ho ht (kk.2.2 H locs la a1 a2 a3 a4 a5 a6 a7)⟩
theorem so_tabOut (hx : p.tables.exec = Jvm.exec) (hb : c.code = xC X) : me_rule el X v N (me_JW p l e R s m args below meth c Q G nL sz0 sl0 H0 N) 48 := by
  intro pc ls st M x dflt lo hi offs len tgt d h ht kk
  exact ⟨kk.1, kk.2.1, fun H locs la a1 a2 a3 a4 a5 a6 a7 => lv_tableOut hx hb d h ht (kk.2.2 H locs la a1 a2 a3 a4 a5 a6 a7)⟩
theorem so_lookup (hx : p.tables.exec = Jvm.exec) (hb : c.code = xC X) : me_rule el X v N (me_JW p l e R s m args below meth c Q G nL sz0 sl0 H0 N) 49 := by
  intro pc ls st M x dflt ps len off tgt d hp ho ht kk
  exact ⟨kk.1, kk.2.1, fun H locs la a1 a2 a3 a4 a5 a6 a7 => lv_lookup hx hb d hp ho ht (kk.2.2 H locs la a1 a2 a3 a4 a5 a6 a7)⟩
/-- what the tables say of a method's fields -/
def me_TF (G : me_G) (own : String) (args : Array Value) (s : State) (fi : Prop) (tab : Nat → Option (Nat × Nat × Nat × Nat)) : Prop := ∀ idx ci k key ty, tab idx = some (ci, k, key, ty) → ci < 99 ∧ key = 1000 + 64 * ci + k ∧ ty = gF G ci k ∧ ∃ r : vw_C, (gC G)[ci]? = some r ∧ k < r.2.2 ∧
  (∀ w ∈ u_ws r.1 r.2.1 r.2.2, w.before args s = true) ∧ (r.2.1 k).1 = r.1 ∧ (Cond.fieldLink own idx r.1 (r.2.1 k).2.1 (r.2.1 k).2.2.1).before args s = true ∧ ((r.2.1 k).2.2.2 = true → fi → r.1 = own)
def me_ty (t : FieldType) (n : Nat) : Prop := (n = 0 ∧ t = .int) ∨ (n = 1 ∧ t = .boolean) ∨ (n = 2 ∧ ((∃ a, t = .object a) ∨ ∃ a, t = .array a))
def me_CL (G : me_G) : Prop := ∀ (ci : Nat) (r : vw_C), (gC G)[ci]? = some r → (∀ a, a < r.2.2 → ∀ b, b < r.2.2 → a ≠ b → (r.2.1 a).2.1 ≠ (r.2.1 b).2.1) ∧ ∃ ty : Nat → FieldType, (∀ k, k < r.2.2 → parseFieldDescriptor (r.2.1 k).2.2.1 = some (ty k)) ∧ ∀ k, k < r.2.2 → me_ty (ty k) (gF G ci k)

theorem so_getI (hx : p.tables.exec = Jvm.exec) (hb : c.code = xC X) (hown : s.vm.findClass own = some m.cls) (hK : va_K (gD G) (gC G) (gT G) s) (hT : me_TF G own args s False (xF X)) : me_rule el X v N (me_JW p l e R s m args below meth c Q G nL sz0 sl0 H0 N) 50 := by
  intro pc ls st M q idx ci k key ty d hf ht hk kk
  refine ⟨kk.1, kk.2.1, fun H locs la a1 a2 a3 a4 a5 a6 a7 => ?_⟩
  obtain ⟨t1, t2, t3, r, t4, t5, t6, t7, t8, -⟩ := hT _ _ _ _ _ hf
  obtain ⟨r', b1, cell, q1, q2, q3, q4⟩ := (a3.2.1 q).1 ci hk t1
  cases t4.symm.trans b1
  obtain ⟨hS, hfc, kC, hkC, hkind⟩ := hK.1 ci _ t4
  obtain ⟨cf, kf, fi, f, hi, hsl⟩ := hS k t5
  have hst := (u_facts hfc hkC (u_lays t6 (fun w h => h) t5) hi).1
  rw [t7] at hi
  refine W.getf hx hb hown t8 hi hst q1 (by rw [q3]; exact fun h => by cases h) (v := .int (mI M key q 0)) ?_ rfl rfl d (kk.2.2 H locs la a1 a2 a3 a4 a5 a6 a7)
  rw [hsl, q4 k t5]
  show some (me_v (me_fv G M ci k q)) = _
  unfold me_fv
  subst t2
  rw [if_neg (by rw [← t3]; exact ht)]
theorem so_getR (hx : p.tables.exec = Jvm.exec) (hb : c.code = xC X) (hown : s.vm.findClass own = some m.cls) (hK : va_K (gD G) (gC G) (gT G) s) (hT : me_TF G own args s False (xF X)) : me_rule el X v N (me_JW p l e R s m args below meth c Q G nL sz0 sl0 H0 N) 51 := by
  intro pc ls st M q idx ci k key d hf hk kk
  refine ⟨kk.1, kk.2.1, fun H locs la a1 a2 a3 a4 a5 a6 a7 => ?_⟩
  obtain ⟨t1, t2, t3, r, t4, t5, t6, t7, t8, -⟩ := hT _ _ _ _ _ hf
  obtain ⟨r', b1, cell, q1, q2, q3, q4⟩ := (a3.2.1 q).1 ci hk t1
  cases t4.symm.trans b1
  obtain ⟨hS, hfc, kC, hkC, hkind⟩ := hK.1 ci _ t4
  obtain ⟨cf, kf, fi, f, hi, hsl⟩ := hS k t5
  have hst := (u_facts hfc hkC (u_lays t6 (fun w h => h) t5) hi).1
  rw [t7] at hi
  refine W.getf hx hb hown t8 hi hst q1 (by rw [q3]; exact fun h => by cases h) (v := va_rf (mR M key q 0)) ?_ rfl rfl d (kk.2.2 H locs la a1 a2 a3 a4 a5 a6 a7)
  rw [hsl, q4 k t5]
  show some (me_v (me_fv G M ci k q)) = _
  unfold me_fv
  subst t2
  rw [if_pos t3.symm]
theorem so_putI (hx : p.tables.exec = Jvm.exec) (hb : c.code = xC X) (hown : s.vm.findClass own = some m.cls) (hK : va_K (gD G) (gC G) (gT G) s) (hCL : me_CL G) (hT : me_TF G own args s True (xG X)) (hT2 : ∀ idx ci k key ty r, xG X idx = some (ci, k, key, ty) → (gC G)[ci]? = some r → (r.2.1 k).2.2.2 = true → meth.name = "<init>") : me_rule el X v N (me_JW p l e R s m args below meth c Q G nL sz0 sl0 H0 N) 52 := by
  intro pc ls st M q idx ci k key x d hf hk kk
  refine ⟨kk.1, kk.2.1, fun H locs la a1 a2 a3 a4 a5 a6 a7 => ?_⟩
  obtain ⟨t1, t2, t3, r, t4, t5, t6, t7, t8, t9⟩ := hT _ _ _ _ _ hf
  obtain ⟨r', b1, cell, q1, q2, q3, q4⟩ := (a3.2.1 q).1 ci hk t1
  cases t4.symm.trans b1
  obtain ⟨hnm, tyf, hty, hty2⟩ := hCL ci r t4
  have hap := va_apart (own := own) (Ts := u_ws r.1 r.2.1 r.2.2) t6 (fun w h => h) tyf hty hnm hK t4
  obtain ⟨hS, hfc, kC, hkC, hkind⟩ := hK.1 ci _ t4
  obtain ⟨cf, kf, fi, f, hi, hsl⟩ := hS k t5
  have hlay := t6 _ (u_in_lay t5)
  have hst := (u_facts hfc hkC (u_lays t6 (fun w h => h) t5) hi).1
  have hnar : narrow (tyf k) (.int x) = .int x ∧ fits (tyf k) (.int x) = true := by
    rcases hty2 k t5 with ⟨h1, h2⟩ | ⟨h1, h2⟩ | ⟨h1, h2⟩
    · rw [h2]; exact ⟨rfl, rfl⟩
    · omega
    · omega
  have fin : ∀ (H1 : Heap) (i0 : Nat), i0 = (gD G).2 ci k → H1[q]? = some (cell.setSlot i0 (.int x)) → H1.size = H.size → (∀ q', q' ≠ q → H1[q']? = H[q']?) → W p l e R s m args below meth c H1 (locs ++ [⟨q, i0⟩]) (mSz M - sz0) (mSl M - sl0) Q (F0 m (pc + 3) la (st.map me_v)) := by
    intro H1 i0 e0 e1 e2 e3
    subst e0
    refine kk.2.2 H1 _ la a1 a2 (a3.write q (by omega) rfl rfl rfl ?_ ?_ e2 e3 ?_) (fun q' hq' => ?_) ?_ a6 a7
    · intro k' q' i' hne; simp [mSetI, mSetR, mI, hne]
    · intro k' q' i' hne; simp [mSetI, mSetR, mR, hne]
    · refine ⟨fun ci' hk' _ => ?_, fun hk' => ?_⟩
      · have hcc : ci' = ci := by
          have h0 : mKd M q = ci' + 1 := hk'
          omega
        subst hcc
        refine ⟨r, t4, t_OB.to (V := updV (fun k => me_v (me_fv G M ci' k q)) k (.int x)) ⟨_, e1, q2, q3, t_set q4 hap t5 _⟩ (fun j hj => ?_)⟩
        subst t2
        by_cases hjk : j = k
        · subst hjk
          simp [updV, me_fv, mSetI, mSetR, mI, mR, ← t3]
        · simp [updV, me_fv, mSetI, mSetR, mI, mR, hjk]
      · have h0 : 100 ≤ mKd M q := hk'
        omega
    · have := a3.2.2.2.1 q (by omega)
      rw [e3 q' (Nat.ne_of_lt (Nat.lt_of_lt_of_le hq' this))]
      exact a4 q' hq'
    · intro q' hq'
      rcases List.mem_append.mp hq' with h | h
      · exact a5 q' h
      · rw [List.mem_singleton.mp h]
        exact a3.2.2.2.1 q (by omega)
  unfold u_lay at hlay
  by_cases hfin : (r.2.1 k).2.2.2 = true
  · rw [if_pos hfin] at hlay
    have hcf : m.cls = cf := by
      obtain ⟨_, _, c', _, _, _, -, -, hf', -, -, -, hown2, -⟩ := Cond.laysFinal_spec hlay
      have z1 : c' = cf := by have := hi.symm.trans hf'; simp at this; exact this.1.symm
      rw [t7, t9 hfin trivial] at hown2
      rw [← z1]; exact Option.some.inj (hown.symm.trans hown2)
    have h6 := u_fits hfc hkC hkind (Or.inr hlay) hi (hty k t5) hnar.1 hnar.2
    rw [t7] at hi
    exact W.putFinK hx hb hown t8 hi hst hcf (hT2 _ _ _ _ _ _ hf t4 hfin) (by rw [q2]; exact h6) q1 q3 (by rw [hsl]; exact k2_hasslot (q4 k t5)) rfl rfl d fun H1 e1 e2 e3 => fin H1 _ hsl e1 e2 e3
  · rw [if_neg hfin] at hlay
    have h6 := u_store hfc hkC hkind hlay hi (hty k t5) hnar.1 hnar.2
    rw [t7] at hi
    exact W.putK hx hb (f := f) ⟨hown, t8, ⟨_, _, _, hi⟩, hst⟩ (by rw [q2]; exact h6) q1 q3 (by rw [hsl]; exact k2_hasslot (q4 k t5)) rfl rfl d fun H1 e1 e2 e3 => fin H1 _ hsl e1 e2 e3
theorem so_putZ (hx : p.tables.exec = Jvm.exec) (hb : c.code = xC X) (hown : s.vm.findClass own = some m.cls) (hK : va_K (gD G) (gC G) (gT G) s) (hCL : me_CL G) (hT : me_TF G own args s True (xG X)) (hT2 : ∀ idx ci k key ty r, xG X idx = some (ci, k, key, ty) → (gC G)[ci]? = some r → (r.2.1 k).2.2.2 = true → meth.name = "<init>") : me_rule el X v N (me_JW p l e R s m args below meth c Q G nL sz0 sl0 H0 N) 53 := by
  intro pc ls st M q idx ci k key x d hf hk hz kk
  refine ⟨kk.1, kk.2.1, fun H locs la a1 a2 a3 a4 a5 a6 a7 => ?_⟩
  obtain ⟨t1, t2, t3, r, t4, t5, t6, t7, t8, t9⟩ := hT _ _ _ _ _ hf
  obtain ⟨r', b1, cell, q1, q2, q3, q4⟩ := (a3.2.1 q).1 ci hk t1
  cases t4.symm.trans b1
  obtain ⟨hnm, tyf, hty, hty2⟩ := hCL ci r t4
  have hap := va_apart (own := own) (Ts := u_ws r.1 r.2.1 r.2.2) t6 (fun w h => h) tyf hty hnm hK t4
  obtain ⟨hS, hfc, kC, hkC, hkind⟩ := hK.1 ci _ t4
  obtain ⟨cf, kf, fi, f, hi, hsl⟩ := hS k t5
  have hlay := t6 _ (u_in_lay t5)
  have hst := (u_facts hfc hkC (u_lays t6 (fun w h => h) t5) hi).1
  have hnar : narrow (tyf k) (.int x) = .int x ∧ fits (tyf k) (.int x) = true := by
    rcases hty2 k t5 with ⟨h1, h2⟩ | ⟨h1, h2⟩ | ⟨h1, h2⟩
    · omega
    · rw [h2]; rcases hz with rfl | rfl <;> exact ⟨rfl, rfl⟩
    · omega
  have fin : ∀ (H1 : Heap) (i0 : Nat), i0 = (gD G).2 ci k → H1[q]? = some (cell.setSlot i0 (.int x)) → H1.size = H.size → (∀ q', q' ≠ q → H1[q']? = H[q']?) → W p l e R s m args below meth c H1 (locs ++ [⟨q, i0⟩]) (mSz M - sz0) (mSl M - sl0) Q (F0 m (pc + 3) la (st.map me_v)) := by
    intro H1 i0 e0 e1 e2 e3
    subst e0
    refine kk.2.2 H1 _ la a1 a2 (a3.write q (by omega) rfl rfl rfl ?_ ?_ e2 e3 ?_) (fun q' hq' => ?_) ?_ a6 a7
    · intro k' q' i' hne; simp [mSetI, mSetR, mI, hne]
    · intro k' q' i' hne; simp [mSetI, mSetR, mR, hne]
    · refine ⟨fun ci' hk' _ => ?_, fun hk' => ?_⟩
      · have hcc : ci' = ci := by
          have h0 : mKd M q = ci' + 1 := hk'
          omega
        subst hcc
        refine ⟨r, t4, t_OB.to (V := updV (fun k => me_v (me_fv G M ci' k q)) k (.int x)) ⟨_, e1, q2, q3, t_set q4 hap t5 _⟩ (fun j hj => ?_)⟩
        subst t2
        by_cases hjk : j = k
        · subst hjk
          simp [updV, me_fv, mSetI, mSetR, mI, mR, ← t3]
        · simp [updV, me_fv, mSetI, mSetR, mI, mR, hjk]
      · have h0 : 100 ≤ mKd M q := hk'
        omega
    · have := a3.2.2.2.1 q (by omega)
      rw [e3 q' (Nat.ne_of_lt (Nat.lt_of_lt_of_le hq' this))]
      exact a4 q' hq'
    · intro q' hq'
      rcases List.mem_append.mp hq' with h | h
      · exact a5 q' h
      · rw [List.mem_singleton.mp h]
        exact a3.2.2.2.1 q (by omega)
  unfold u_lay at hlay
  by_cases hfin : (r.2.1 k).2.2.2 = true
  · rw [if_pos hfin] at hlay
    have hcf : m.cls = cf := by
      obtain ⟨_, _, c', _, _, _, -, -, hf', -, -, -, hown2, -⟩ := Cond.laysFinal_spec hlay
      have z1 : c' = cf := by have := hi.symm.trans hf'; simp at this; exact this.1.symm
      rw [t7, t9 hfin trivial] at hown2
      rw [← z1]; exact Option.some.inj (hown.symm.trans hown2)
    have h6 := u_fits hfc hkC hkind (Or.inr hlay) hi (hty k t5) hnar.1 hnar.2
    rw [t7] at hi
    exact W.putFinK hx hb hown t8 hi hst hcf (hT2 _ _ _ _ _ _ hf t4 hfin) (by rw [q2]; exact h6) q1 q3 (by rw [hsl]; exact k2_hasslot (q4 k t5)) rfl rfl d fun H1 e1 e2 e3 => fin H1 _ hsl e1 e2 e3
  · rw [if_neg hfin] at hlay
    have h6 := u_store hfc hkC hkind hlay hi (hty k t5) hnar.1 hnar.2
    rw [t7] at hi
    exact W.putK hx hb (f := f) ⟨hown, t8, ⟨_, _, _, hi⟩, hst⟩ (by rw [q2]; exact h6) q1 q3 (by rw [hsl]; exact k2_hasslot (q4 k t5)) rfl rfl d fun H1 e1 e2 e3 => fin H1 _ hsl e1 e2 e3
theorem so_putR (hx : p.tables.exec = Jvm.exec) (hb : c.code = xC X) (hown : s.vm.findClass own = some m.cls) (hK : va_K (gD G) (gC G) (gT G) s) (hCL : me_CL G) (hT : me_TF G own args s True (xG X)) (hT2 : ∀ idx ci k key ty r, xG X idx = some (ci, k, key, ty) → (gC G)[ci]? = some r → (r.2.1 k).2.2.2 = true → meth.name = "<init>") : me_rule el X v N (me_JW p l e R s m args below meth c Q G nL sz0 sl0 H0 N) 54 := by
  intro pc ls st M q idx ci k key x d hf hk kk
  refine ⟨kk.1, kk.2.1, fun H locs la a1 a2 a3 a4 a5 a6 a7 => ?_⟩
  obtain ⟨t1, t2, t3, r, t4, t5, t6, t7, t8, t9⟩ := hT _ _ _ _ _ hf
  obtain ⟨r', b1, cell, q1, q2, q3, q4⟩ := (a3.2.1 q).1 ci hk t1
  cases t4.symm.trans b1
  obtain ⟨hnm, tyf, hty, hty2⟩ := hCL ci r t4
  have hap := va_apart (own := own) (Ts := u_ws r.1 r.2.1 r.2.2) t6 (fun w h => h) tyf hty hnm hK t4
  obtain ⟨hS, hfc, kC, hkC, hkind⟩ := hK.1 ci _ t4
  obtain ⟨cf, kf, fi, f, hi, hsl⟩ := hS k t5
  have hlay := t6 _ (u_in_lay t5)
  have hst := (u_facts hfc hkC (u_lays t6 (fun w h => h) t5) hi).1
  have hnar : narrow (tyf k) (va_rf x) = va_rf x ∧ fits (tyf k) (va_rf x) = true := by
    rcases hty2 k t5 with ⟨h1, h2⟩ | ⟨h1, h2⟩ | ⟨h1, h2⟩
    · omega
    · omega
    · rcases h2 with ⟨a, h2⟩ | ⟨a, h2⟩ <;> rw [h2] <;> cases x <;> exact ⟨rfl, rfl⟩
  have fin : ∀ (H1 : Heap) (i0 : Nat), i0 = (gD G).2 ci k → H1[q]? = some (cell.setSlot i0 (va_rf x)) → H1.size = H.size → (∀ q', q' ≠ q → H1[q']? = H[q']?) → W p l e R s m args below meth c H1 (locs ++ [⟨q, i0⟩]) (mSz M - sz0) (mSl M - sl0) Q (F0 m (pc + 3) la (st.map me_v)) := by
    intro H1 i0 e0 e1 e2 e3
    subst e0
    refine kk.2.2 H1 _ la a1 a2 (a3.write q (by omega) rfl rfl rfl ?_ ?_ e2 e3 ?_) (fun q' hq' => ?_) ?_ a6 a7
    · intro k' q' i' hne; simp [mSetI, mSetR, mI, hne]
    · intro k' q' i' hne; simp [mSetI, mSetR, mR, hne]
    · refine ⟨fun ci' hk' _ => ?_, fun hk' => ?_⟩
      · have hcc : ci' = ci := by
          have h0 : mKd M q = ci' + 1 := hk'
          omega
        subst hcc
        refine ⟨r, t4, t_OB.to (V := updV (fun k => me_v (me_fv G M ci' k q)) k (va_rf x)) ⟨_, e1, q2, q3, t_set q4 hap t5 _⟩ (fun j hj => ?_)⟩
        subst t2
        by_cases hjk : j = k
        · subst hjk
          simp [updV, me_fv, mSetI, mSetR, mI, mR, ← t3]
        · simp [updV, me_fv, mSetI, mSetR, mI, mR, hjk]
      · have h0 : 100 ≤ mKd M q := hk'
        omega
    · have := a3.2.2.2.1 q (by omega)
      rw [e3 q' (Nat.ne_of_lt (Nat.lt_of_lt_of_le hq' this))]
      exact a4 q' hq'
    · intro q' hq'
      rcases List.mem_append.mp hq' with h | h
      · exact a5 q' h
      · rw [List.mem_singleton.mp h]
        exact a3.2.2.2.1 q (by omega)
  unfold u_lay at hlay
  by_cases hfin : (r.2.1 k).2.2.2 = true
  · rw [if_pos hfin] at hlay
    have hcf : m.cls = cf := by
      obtain ⟨_, _, c', _, _, _, -, -, hf', -, -, -, hown2, -⟩ := Cond.laysFinal_spec hlay
      have z1 : c' = cf := by have := hi.symm.trans hf'; simp at this; exact this.1.symm
      rw [t7, t9 hfin trivial] at hown2
      rw [← z1]; exact Option.some.inj (hown.symm.trans hown2)
    have h6 := u_fits hfc hkC hkind (Or.inr hlay) hi (hty k t5) hnar.1 hnar.2
    rw [t7] at hi
    exact W.putFinK hx hb hown t8 hi hst hcf (hT2 _ _ _ _ _ _ hf t4 hfin) (by rw [q2]; exact h6) q1 q3 (by rw [hsl]; exact k2_hasslot (q4 k t5)) rfl rfl d fun H1 e1 e2 e3 => fin H1 _ hsl e1 e2 e3
  · rw [if_neg hfin] at hlay
    have h6 := u_store hfc hkC hkind hlay hi (hty k t5) hnar.1 hnar.2
    rw [t7] at hi
    exact W.putK hx hb (f := f) ⟨hown, t8, ⟨_, _, _, hi⟩, hst⟩ (by rw [q2]; exact h6) q1 q3 (by rw [hsl]; exact k2_hasslot (q4 k t5)) rfl rfl d fun H1 e1 e2 e3 => fin H1 _ hsl e1 e2 e3
theorem me_dflt {t : FieldType} {n : Nat} (h : me_ty t n) : defaultValue t = if n = 2 then .null else .int 0 := by
  rcases h with ⟨rfl, rfl⟩ | ⟨rfl, rfl⟩ | ⟨rfl, ⟨a, rfl⟩ | ⟨a, rfl⟩⟩ <;> rfl
def me_TN (G : me_G) (own : String) (args : Array Value) (s : State) (tab : Nat → Option (Nat × Nat)) : Prop := ∀ idx ci n, tab idx = some (ci, n) → ci < 99 ∧ ∃ r : vw_C, (gC G)[ci]? = some r ∧ r.2.2 = n ∧ (∀ w ∈ u_ws r.1 r.2.1 r.2.2, w.before args s = true) ∧
  (Cond.classLink own idx r.1).before args s = true ∧ (Cond.instantiable r.1 n).before args s = true ∧ (Cond.initialized r.1).before args s = true
theorem so_new (hx : p.tables.exec = Jvm.exec) (hb : c.code = xC X) (hown : s.vm.findClass own = some m.cls) (hK : va_K (gD G) (gC G) (gT G) s) (hCL : me_CL G) (hRc : mSz N - sz0 ≤ R.cells) (hRs : mSl N - sl0 ≤ R.slots) (hT : me_TN G own args s (xN X)) : me_rule el X v N (me_JW p l e R s m args below meth c Q G nL sz0 sl0 H0 N) 55 := by
  intro pc ls st M idx ci n d hf kk
  have k1 : mSz M + 1 ≤ mSz N := kk.1
  have k2 : mSl M + n ≤ mSl N := kk.2.1
  refine ⟨by omega, by omega, fun H locs la a1 a2 a3 a4 a5 a6 a7 => ?_⟩
  obtain ⟨t1, r, t4, t5, t6, t7, t8, t9⟩ := hT _ _ _ hf
  obtain ⟨hnm, tyf, hty, hty2⟩ := hCL ci r t4
  have hKn := hK.1 ci _ t4
  refine W.newcK hx hb hown t7 t8 t9 rfl d (by omega) (by omega) hKn.2.1 a3.1 fun H1 kC hkC e1 z1 o1 => ?_
  refine W.cs (cells' := mSz (mNew M (ci + 1) 0 n) - sz0) (slots' := mSl (mNew M (ci + 1) 0 n) - sl0) (by rw [mSz_New]; omega) (by rw [mSl_New]; omega) ?_
  refine kk.2.2 H1 locs la (by rw [mSz_New]; omega) (by rw [mSl_New]; omega) (a3.made (ci + 1) 0 n (by rw [z1, a3.1]) (fun q' h => o1 q' (by rw [← a3.1]; exact h)) ⟨fun ci' h' _ => ?_, fun h' => ?_⟩) (fun q' hq' => ?_) a5 a6 a7
  · have h0 : ci' = ci := by
      rw [mKd_New, if_pos rfl] at h'
      omega
    subst h0
    refine ⟨r, t4, (u_born tyf t6 (fun w h => h) hKn hkC e1 hty).to fun k hk => ?_⟩
    obtain ⟨-, hfr⟩ := a3.2.2.1 (mSz M) (Nat.le_refl _)
    rw [me_dflt (hty2 k hk)]
    unfold me_fv
    rw [mR_New, mI_New, (hfr _ 0).1, (hfr _ 0).2]
    split <;> rfl
  · rw [mKd_New, if_pos rfl] at h'
    omega
  · have := a3.2.2.2.2
    rw [o1 q' (by omega)]
    exact a4 q' hq'
/-- the array types: int, boolean, then references to objects of a class of the list -/
def me_AT (G : me_G) (el : Nat → Nat) : Prop := (∃ c0, (gT G)[0]? = some (c0, .int)) ∧ (∃ c1, (gT G)[1]? = some (c1, .boolean)) ∧ ∀ a t, 2 ≤ a → (gT G)[a]? = some t → ∃ (ci : Nat) (r : vw_C), ci < 99 ∧ el (100 + a) = ci + 1 ∧ (gC G)[ci]? = some r ∧ t.2 = .object r.1
end SND
end
section
section SND
variable {p : Program} {l : Launch} {e : Env} {R : Room} {s : State} {m : MethodId} {args : Array Value} {below : List Frame} {meth : Method} {c : Code} {Q : State → Prop}
variable {G : me_G} {nL sz0 sl0 : Nat} {H0 : Heap} {X : me_X} {v : Option me_V} {N : me_M} {el : Nat → Nat} {own : String}

theorem so_newI (hx : p.tables.exec = Jvm.exec) (hb : c.code = xC X) (hK : va_K (gD G) (gC G) (gT G) s) (hAT : me_AT G el) (hRc : mSz N - sz0 ≤ R.cells) (hRs : mSl N - sl0 ≤ R.slots) (hT : xA X 70000 = some 100 → (Cond.arrayClass .int).before args s = true) : me_rule el X v N (me_JW p l e R s m args below meth c Q G nL sz0 sl0 H0 N) 56 := by
  intro pc ls st M n d hf hn hb2 kk
  have k1 : mSz M + 1 ≤ mSz N := kk.1
  have k2 : mSl M + n.toNatClampNeg ≤ mSl N := kk.2.1
  refine ⟨by omega, by omega, fun H locs la a1 a2 a3 a4 a5 a6 a7 => ?_⟩
  obtain ⟨c0, hc0⟩ := hAT.1
  refine va_newaK (atype := .int) hx hb (hT hf) rfl d rfl hn rfl (by have hcb : componentBytes (newarray.typeOf .int) = 4 := rfl; rw [hcb]; omega) (by omega) (by omega) a3.1 fun H1 cA e1 z1 o1 hAr hNm => ?_
  have hcc : cA = c0 := by
    have h := (hK.2 0 _ hc0).2
    unfold va_RA at h
    dsimp only at h
    simp only [newarray.typeOf] at hNm
    rw [hNm] at h
    exact Option.some.inj h
  subst hcc
  refine W.cs (cells' := mSz (mNew M 100 n.toNatClampNeg n.toNatClampNeg) - sz0) (slots' := mSl (mNew M 100 n.toNatClampNeg n.toNatClampNeg) - sl0) (by rw [mSz_New]; omega) (by rw [mSl_New]; omega) ?_
  refine kk.2.2 H1 locs la (by rw [mSz_New]; omega) (by rw [mSl_New]; omega) (a3.made 100 n.toNatClampNeg n.toNatClampNeg (by rw [z1, a3.1]) (fun q' h => o1 q' (by rw [← a3.1]; exact h)) ⟨fun ci' h' h2' => ?_, fun h' => ?_⟩) (fun q' hq' => ?_) a5 a6 a7
  · rw [mKd_New, if_pos rfl] at h'
    omega
  · refine ⟨_, (show (gT G)[mKd (mNew M 100 n.toNatClampNeg n.toNatClampNeg) (mSz M) - 100]? = some (cA, .int) from ?_), ?_⟩
    · rw [mKd_New, if_pos rfl]; exact hc0
    · rw [e1, mLn_New, if_pos rfl, mKd_New, if_pos rfl]
      obtain ⟨-, hfr⟩ := a3.2.2.1 (mSz M) (Nat.le_refl _)
      congr 2
      funext j
      unfold me_av
      rw [mI_New, (hfr _ j).1]
      rfl
  · have := a3.2.2.2.2
    rw [o1 q' (by omega)]
    exact a4 q' hq'
theorem so_newZ (hx : p.tables.exec = Jvm.exec) (hb : c.code = xC X) (hK : va_K (gD G) (gC G) (gT G) s) (hAT : me_AT G el) (hRc : mSz N - sz0 ≤ R.cells) (hRs : mSl N - sl0 ≤ R.slots) (hT : xA X 70001 = some 101 → (Cond.arrayClass .boolean).before args s = true) : me_rule el X v N (me_JW p l e R s m args below meth c Q G nL sz0 sl0 H0 N) 57 := by
  intro pc ls st M n d hf hn hb2 kk
  have k1 : mSz M + 1 ≤ mSz N := kk.1
  have k2 : mSl M + n.toNatClampNeg ≤ mSl N := kk.2.1
  refine ⟨by omega, by omega, fun H locs la a1 a2 a3 a4 a5 a6 a7 => ?_⟩
  obtain ⟨c0, hc0⟩ := hAT.2.1
  refine va_newaK (atype := .boolean) hx hb (hT hf) rfl d rfl hn rfl (by have hcb : componentBytes (newarray.typeOf .boolean) = 1 := rfl; rw [hcb]; omega) (by omega) (by omega) a3.1 fun H1 cA e1 z1 o1 hAr hNm => ?_
  have hcc : cA = c0 := by
    have h := (hK.2 1 _ hc0).2
    unfold va_RA at h
    dsimp only at h
    simp only [newarray.typeOf] at hNm
    rw [hNm] at h
    exact Option.some.inj h
  subst hcc
  refine W.cs (cells' := mSz (mNew M 101 n.toNatClampNeg n.toNatClampNeg) - sz0) (slots' := mSl (mNew M 101 n.toNatClampNeg n.toNatClampNeg) - sl0) (by rw [mSz_New]; omega) (by rw [mSl_New]; omega) ?_
  refine kk.2.2 H1 locs la (by rw [mSz_New]; omega) (by rw [mSl_New]; omega) (a3.made 101 n.toNatClampNeg n.toNatClampNeg (by rw [z1, a3.1]) (fun q' h => o1 q' (by rw [← a3.1]; exact h)) ⟨fun ci' h' h2' => ?_, fun h' => ?_⟩) (fun q' hq' => ?_) a5 a6 a7
  · rw [mKd_New, if_pos rfl] at h'
    omega
  · refine ⟨_, (show (gT G)[mKd (mNew M 101 n.toNatClampNeg n.toNatClampNeg) (mSz M) - 100]? = some (cA, .boolean) from ?_), ?_⟩
    · rw [mKd_New, if_pos rfl]; exact hc0
    · rw [e1, mLn_New, if_pos rfl, mKd_New, if_pos rfl]
      obtain ⟨-, hfr⟩ := a3.2.2.1 (mSz M) (Nat.le_refl _)
      congr 2
      funext j
      unfold me_av
      rw [mI_New, (hfr _ j).1]
      rfl
  · have := a3.2.2.2.2
    rw [o1 q' (by omega)]
    exact a4 q' hq'
end SND
end
