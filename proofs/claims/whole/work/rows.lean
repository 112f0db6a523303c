section
-- ===== PART A: goes FIRST, ahead of the names: the tables' words, and 'selects' of the private methods out of them =====
/-- a private method of a class that the tables say can be made, by its rows of tables_1 -/
def lw_okq (q : MethodName × Nat) : Prop := (q.1.cls ≠ "java/lang/invoke/MethodHandle" ∧ q.1.cls ≠ "java/lang/invoke/VarHandle") ∧ Cond.instantiable q.1.cls q.2 ∈ tables_1 ∧ Cond.privateMethod q.1 ∈ tables_1 ∧ Cond.instanceMethod q.1 ∈ tables_1
theorem lw_p0 : lw_okq (⟨"GossipNodes", "isNode", "(I)Z"⟩, 5) := ⟨⟨by decide +kernel, by decide +kernel⟩, List.mem_of_getElem? (i := 11) (by decide +kernel), List.mem_of_getElem? (i := 232) (by decide +kernel), List.mem_of_getElem? (i := 233) (by decide +kernel)⟩
theorem lw_p1 : lw_okq (⟨"GossipNodes$Node", "loadTable", "(LGossipNodes$Message;)V"⟩, 18) := ⟨⟨by decide +kernel, by decide +kernel⟩, List.mem_of_getElem? (i := 93) (by decide +kernel), List.mem_of_getElem? (i := 268) (by decide +kernel), List.mem_of_getElem? (i := 269) (by decide +kernel)⟩
theorem lw_p2 : lw_okq (⟨"GossipNodes$Node", "loadQueued", "(LGossipNodes$Message;)V"⟩, 18) := ⟨⟨by decide +kernel, by decide +kernel⟩, List.mem_of_getElem? (i := 93) (by decide +kernel), List.mem_of_getElem? (i := 276) (by decide +kernel), List.mem_of_getElem? (i := 277) (by decide +kernel)⟩
theorem lw_p3 : lw_okq (⟨"GossipNodes$Node", "mostToSend", "(I)I"⟩, 18) := ⟨⟨by decide +kernel, by decide +kernel⟩, List.mem_of_getElem? (i := 93) (by decide +kernel), List.mem_of_getElem? (i := 280) (by decide +kernel), List.mem_of_getElem? (i := 281) (by decide +kernel)⟩
theorem lw_p4 : lw_okq (⟨"GossipNodes", "isRunning", "(I)Z"⟩, 5) := ⟨⟨by decide +kernel, by decide +kernel⟩, List.mem_of_getElem? (i := 11) (by decide +kernel), List.mem_of_getElem? (i := 288) (by decide +kernel), List.mem_of_getElem? (i := 289) (by decide +kernel)⟩
theorem lw_p5 : lw_okq (⟨"GossipNodes", "areCut", "(II)Z"⟩, 5) := ⟨⟨by decide +kernel, by decide +kernel⟩, List.mem_of_getElem? (i := 11) (by decide +kernel), List.mem_of_getElem? (i := 305) (by decide +kernel), List.mem_of_getElem? (i := 306) (by decide +kernel)⟩
theorem lw_p6 : lw_okq (⟨"GossipNodes", "deliverAll", "()I"⟩, 5) := ⟨⟨by decide +kernel, by decide +kernel⟩, List.mem_of_getElem? (i := 11) (by decide +kernel), List.mem_of_getElem? (i := 329) (by decide +kernel), List.mem_of_getElem? (i := 330) (by decide +kernel)⟩
theorem lw_p7 : lw_okq (⟨"GossipNodes$Node", "learn", "(IIIII)V"⟩, 18) := ⟨⟨by decide +kernel, by decide +kernel⟩, List.mem_of_getElem? (i := 93) (by decide +kernel), List.mem_of_getElem? (i := 341) (by decide +kernel), List.mem_of_getElem? (i := 342) (by decide +kernel)⟩
theorem lw_p8 : lw_okq (⟨"GossipNodes$Node", "refute", "(II)V"⟩, 18) := ⟨⟨by decide +kernel, by decide +kernel⟩, List.mem_of_getElem? (i := 93) (by decide +kernel), List.mem_of_getElem? (i := 345) (by decide +kernel), List.mem_of_getElem? (i := 346) (by decide +kernel)⟩
theorem lw_p9 : lw_okq (⟨"GossipNodes$Node", "raiseScore", "(I)V"⟩, 18) := ⟨⟨by decide +kernel, by decide +kernel⟩, List.mem_of_getElem? (i := 93) (by decide +kernel), List.mem_of_getElem? (i := 349) (by decide +kernel), List.mem_of_getElem? (i := 350) (by decide +kernel)⟩
theorem lw_p10 : lw_okq (⟨"GossipNodes$Node", "takeAck", "(LGossipNodes$Message;)V"⟩, 18) := ⟨⟨by decide +kernel, by decide +kernel⟩, List.mem_of_getElem? (i := 93) (by decide +kernel), List.mem_of_getElem? (i := 368) (by decide +kernel), List.mem_of_getElem? (i := 369) (by decide +kernel)⟩
theorem lw_p11 : lw_okq (⟨"GossipNodes$Node", "isOfProbe", "(LGossipNodes$Message;)Z"⟩, 18) := ⟨⟨by decide +kernel, by decide +kernel⟩, List.mem_of_getElem? (i := 93) (by decide +kernel), List.mem_of_getElem? (i := 372) (by decide +kernel), List.mem_of_getElem? (i := 373) (by decide +kernel)⟩
theorem lw_p12 : lw_okq (⟨"GossipNodes$Node", "endRelay", "(I)V"⟩, 18) := ⟨⟨by decide +kernel, by decide +kernel⟩, List.mem_of_getElem? (i := 93) (by decide +kernel), List.mem_of_getElem? (i := 380) (by decide +kernel), List.mem_of_getElem? (i := 381) (by decide +kernel)⟩
theorem lw_p13 : lw_okq (⟨"GossipNodes$Node", "takeAsk", "(LGossipNodes$Message;)V"⟩, 18) := ⟨⟨by decide +kernel, by decide +kernel⟩, List.mem_of_getElem? (i := 93) (by decide +kernel), List.mem_of_getElem? (i := 384) (by decide +kernel), List.mem_of_getElem? (i := 385) (by decide +kernel)⟩
theorem lw_p14 : lw_okq (⟨"GossipNodes$Node", "ageRelays", "()V"⟩, 18) := ⟨⟨by decide +kernel, by decide +kernel⟩, List.mem_of_getElem? (i := 93) (by decide +kernel), List.mem_of_getElem? (i := 392) (by decide +kernel), List.mem_of_getElem? (i := 393) (by decide +kernel)⟩
theorem lw_p15 : lw_okq (⟨"GossipNodes$Node", "buryOverdue", "(I)V"⟩, 18) := ⟨⟨by decide +kernel, by decide +kernel⟩, List.mem_of_getElem? (i := 93) (by decide +kernel), List.mem_of_getElem? (i := 396) (by decide +kernel), List.mem_of_getElem? (i := 397) (by decide +kernel)⟩
def lw_privs_1 : List (MethodName × Nat) := [(⟨"GossipNodes", "isNode", "(I)Z"⟩, 5), (⟨"GossipNodes$Node", "loadTable", "(LGossipNodes$Message;)V"⟩, 18), (⟨"GossipNodes$Node", "loadQueued", "(LGossipNodes$Message;)V"⟩, 18), (⟨"GossipNodes$Node", "mostToSend", "(I)I"⟩, 18), (⟨"GossipNodes", "isRunning", "(I)Z"⟩, 5), (⟨"GossipNodes", "areCut", "(II)Z"⟩, 5), (⟨"GossipNodes", "deliverAll", "()I"⟩, 5), (⟨"GossipNodes$Node", "learn", "(IIIII)V"⟩, 18), (⟨"GossipNodes$Node", "refute", "(II)V"⟩, 18), (⟨"GossipNodes$Node", "raiseScore", "(I)V"⟩, 18), (⟨"GossipNodes$Node", "takeAck", "(LGossipNodes$Message;)V"⟩, 18), (⟨"GossipNodes$Node", "isOfProbe", "(LGossipNodes$Message;)Z"⟩, 18), (⟨"GossipNodes$Node", "endRelay", "(I)V"⟩, 18), (⟨"GossipNodes$Node", "takeAsk", "(LGossipNodes$Message;)V"⟩, 18), (⟨"GossipNodes$Node", "ageRelays", "()V"⟩, 18), (⟨"GossipNodes$Node", "buryOverdue", "(I)V"⟩, 18)]
theorem lw_r1 : ∀ q ∈ lw_privs_1, lw_okq q := List.forall_mem_cons.mpr ⟨lw_p0, List.forall_mem_cons.mpr ⟨lw_p1, List.forall_mem_cons.mpr ⟨lw_p2, List.forall_mem_cons.mpr ⟨lw_p3, List.forall_mem_cons.mpr ⟨lw_p4, List.forall_mem_cons.mpr ⟨lw_p5, List.forall_mem_cons.mpr ⟨lw_p6, List.forall_mem_cons.mpr ⟨lw_p7, List.forall_mem_cons.mpr ⟨lw_p8, List.forall_mem_cons.mpr ⟨lw_p9, List.forall_mem_cons.mpr ⟨lw_p10, List.forall_mem_cons.mpr ⟨lw_p11, List.forall_mem_cons.mpr ⟨lw_p12, List.forall_mem_cons.mpr ⟨lw_p13, List.forall_mem_cons.mpr ⟨lw_p14, List.forall_mem_cons.mpr ⟨lw_p15, fun _ h => absurd h List.not_mem_nil⟩⟩⟩⟩⟩⟩⟩⟩⟩⟩⟩⟩⟩⟩⟩⟩
theorem lw_p16 : lw_okq (⟨"GossipNodes$Node", "restOrProbe", "()V"⟩, 18) := ⟨⟨by decide +kernel, by decide +kernel⟩, List.mem_of_getElem? (i := 93) (by decide +kernel), List.mem_of_getElem? (i := 406) (by decide +kernel), List.mem_of_getElem? (i := 407) (by decide +kernel)⟩
theorem lw_p17 : lw_okq (⟨"GossipNodes$Node", "nextBehind", "(II)I"⟩, 18) := ⟨⟨by decide +kernel, by decide +kernel⟩, List.mem_of_getElem? (i := 93) (by decide +kernel), List.mem_of_getElem? (i := 410) (by decide +kernel), List.mem_of_getElem? (i := 411) (by decide +kernel)⟩
theorem lw_p18 : lw_okq (⟨"GossipNodes$Node", "goOnProbing", "(I)V"⟩, 18) := ⟨⟨by decide +kernel, by decide +kernel⟩, List.mem_of_getElem? (i := 93) (by decide +kernel), List.mem_of_getElem? (i := 414) (by decide +kernel), List.mem_of_getElem? (i := 415) (by decide +kernel)⟩
theorem lw_p19 : lw_okq (⟨"GossipNodes$Node", "askOthers", "()V"⟩, 18) := ⟨⟨by decide +kernel, by decide +kernel⟩, List.mem_of_getElem? (i := 93) (by decide +kernel), List.mem_of_getElem? (i := 418) (by decide +kernel), List.mem_of_getElem? (i := 419) (by decide +kernel)⟩
theorem lw_p20 : lw_okq (⟨"GossipNodes$Node", "endProbe", "(I)V"⟩, 18) := ⟨⟨by decide +kernel, by decide +kernel⟩, List.mem_of_getElem? (i := 93) (by decide +kernel), List.mem_of_getElem? (i := 422) (by decide +kernel), List.mem_of_getElem? (i := 423) (by decide +kernel)⟩
theorem lw_p21 : lw_okq (⟨"GossipNodes$Node", "syncWithNext", "()V"⟩, 18) := ⟨⟨by decide +kernel, by decide +kernel⟩, List.mem_of_getElem? (i := 93) (by decide +kernel), List.mem_of_getElem? (i := 427) (by decide +kernel), List.mem_of_getElem? (i := 428) (by decide +kernel)⟩
theorem lw_p22 : lw_okq (⟨"GossipNodes$Message", "tellNews", "(I)I"⟩, 8) := ⟨⟨by decide +kernel, by decide +kernel⟩, List.mem_of_getElem? (i := 32) (by decide +kernel), List.mem_of_getElem? (i := 447) (by decide +kernel), List.mem_of_getElem? (i := 448) (by decide +kernel)⟩
theorem lw_p23 : lw_okq (⟨"GossipNodes$Node", "countQueued", "()I"⟩, 18) := ⟨⟨by decide +kernel, by decide +kernel⟩, List.mem_of_getElem? (i := 93) (by decide +kernel), List.mem_of_getElem? (i := 468) (by decide +kernel), List.mem_of_getElem? (i := 469) (by decide +kernel)⟩
theorem lw_p24 : lw_okq (⟨"GossipNodes", "seesJustTheRunning", "(LGossipNodes$Node;)Z"⟩, 5) := ⟨⟨by decide +kernel, by decide +kernel⟩, List.mem_of_getElem? (i := 11) (by decide +kernel), List.mem_of_getElem? (i := 480) (by decide +kernel), List.mem_of_getElem? (i := 481) (by decide +kernel)⟩
theorem lw_p25 : lw_okq (⟨"GossipNodesModel", "isNode", "(I)Z"⟩, 28) := ⟨⟨by decide +kernel, by decide +kernel⟩, List.mem_of_getElem? (i := 487) (by decide +kernel), List.mem_of_getElem? (i := 583) (by decide +kernel), List.mem_of_getElem? (i := 584) (by decide +kernel)⟩
theorem lw_p26 : lw_okq (⟨"GossipNodesModel", "enter", "(IIIII)V"⟩, 28) := ⟨⟨by decide +kernel, by decide +kernel⟩, List.mem_of_getElem? (i := 487) (by decide +kernel), List.mem_of_getElem? (i := 587) (by decide +kernel), List.mem_of_getElem? (i := 588) (by decide +kernel)⟩
theorem lw_p27 : lw_okq (⟨"GossipNodesModel", "announce", "(IIII)V"⟩, 28) := ⟨⟨by decide +kernel, by decide +kernel⟩, List.mem_of_getElem? (i := 487) (by decide +kernel), List.mem_of_getElem? (i := 591) (by decide +kernel), List.mem_of_getElem? (i := 592) (by decide +kernel)⟩
theorem lw_p28 : lw_okq (⟨"GossipNodesModel", "send", "(IIIIII)V"⟩, 28) := ⟨⟨by decide +kernel, by decide +kernel⟩, List.mem_of_getElem? (i := 487) (by decide +kernel), List.mem_of_getElem? (i := 595) (by decide +kernel), List.mem_of_getElem? (i := 596) (by decide +kernel)⟩
theorem lw_p29 : lw_okq (⟨"GossipNodesModel", "addQueued", "(I)V"⟩, 28) := ⟨⟨by decide +kernel, by decide +kernel⟩, List.mem_of_getElem? (i := 487) (by decide +kernel), List.mem_of_getElem? (i := 599) (by decide +kernel), List.mem_of_getElem? (i := 600) (by decide +kernel)⟩
theorem lw_p30 : lw_okq (⟨"GossipNodesModel", "mostQueued", "(I)I"⟩, 28) := ⟨⟨by decide +kernel, by decide +kernel⟩, List.mem_of_getElem? (i := 487) (by decide +kernel), List.mem_of_getElem? (i := 603) (by decide +kernel), List.mem_of_getElem? (i := 604) (by decide +kernel)⟩
theorem lw_p31 : lw_okq (⟨"GossipNodesModel", "addNews", "(III)V"⟩, 28) := ⟨⟨by decide +kernel, by decide +kernel⟩, List.mem_of_getElem? (i := 487) (by decide +kernel), List.mem_of_getElem? (i := 607) (by decide +kernel), List.mem_of_getElem? (i := 608) (by decide +kernel)⟩
def lw_privs_2 : List (MethodName × Nat) := [(⟨"GossipNodes$Node", "restOrProbe", "()V"⟩, 18), (⟨"GossipNodes$Node", "nextBehind", "(II)I"⟩, 18), (⟨"GossipNodes$Node", "goOnProbing", "(I)V"⟩, 18), (⟨"GossipNodes$Node", "askOthers", "()V"⟩, 18), (⟨"GossipNodes$Node", "endProbe", "(I)V"⟩, 18), (⟨"GossipNodes$Node", "syncWithNext", "()V"⟩, 18), (⟨"GossipNodes$Message", "tellNews", "(I)I"⟩, 8), (⟨"GossipNodes$Node", "countQueued", "()I"⟩, 18), (⟨"GossipNodes", "seesJustTheRunning", "(LGossipNodes$Node;)Z"⟩, 5), (⟨"GossipNodesModel", "isNode", "(I)Z"⟩, 28), (⟨"GossipNodesModel", "enter", "(IIIII)V"⟩, 28), (⟨"GossipNodesModel", "announce", "(IIII)V"⟩, 28), (⟨"GossipNodesModel", "send", "(IIIIII)V"⟩, 28), (⟨"GossipNodesModel", "addQueued", "(I)V"⟩, 28), (⟨"GossipNodesModel", "mostQueued", "(I)I"⟩, 28), (⟨"GossipNodesModel", "addNews", "(III)V"⟩, 28)]
theorem lw_r2 : ∀ q ∈ lw_privs_2, lw_okq q := List.forall_mem_cons.mpr ⟨lw_p16, List.forall_mem_cons.mpr ⟨lw_p17, List.forall_mem_cons.mpr ⟨lw_p18, List.forall_mem_cons.mpr ⟨lw_p19, List.forall_mem_cons.mpr ⟨lw_p20, List.forall_mem_cons.mpr ⟨lw_p21, List.forall_mem_cons.mpr ⟨lw_p22, List.forall_mem_cons.mpr ⟨lw_p23, List.forall_mem_cons.mpr ⟨lw_p24, List.forall_mem_cons.mpr ⟨lw_p25, List.forall_mem_cons.mpr ⟨lw_p26, List.forall_mem_cons.mpr ⟨lw_p27, List.forall_mem_cons.mpr ⟨lw_p28, List.forall_mem_cons.mpr ⟨lw_p29, List.forall_mem_cons.mpr ⟨lw_p30, List.forall_mem_cons.mpr ⟨lw_p31, fun _ h => absurd h List.not_mem_nil⟩⟩⟩⟩⟩⟩⟩⟩⟩⟩⟩⟩⟩⟩⟩⟩
theorem lw_p32 : lw_okq (⟨"GossipNodesModel", "addTable", "(I)V"⟩, 28) := ⟨⟨by decide +kernel, by decide +kernel⟩, List.mem_of_getElem? (i := 487) (by decide +kernel), List.mem_of_getElem? (i := 611) (by decide +kernel), List.mem_of_getElem? (i := 612) (by decide +kernel)⟩
theorem lw_p33 : lw_okq (⟨"GossipNodesModel", "isRunning", "(I)Z"⟩, 28) := ⟨⟨by decide +kernel, by decide +kernel⟩, List.mem_of_getElem? (i := 487) (by decide +kernel), List.mem_of_getElem? (i := 619) (by decide +kernel), List.mem_of_getElem? (i := 620) (by decide +kernel)⟩
theorem lw_p34 : lw_okq (⟨"GossipNodesModel", "remove", "(I)V"⟩, 28) := ⟨⟨by decide +kernel, by decide +kernel⟩, List.mem_of_getElem? (i := 487) (by decide +kernel), List.mem_of_getElem? (i := 635) (by decide +kernel), List.mem_of_getElem? (i := 636) (by decide +kernel)⟩
theorem lw_p35 : lw_okq (⟨"GossipNodesModel", "arrive", "()Z"⟩, 28) := ⟨⟨by decide +kernel, by decide +kernel⟩, List.mem_of_getElem? (i := 487) (by decide +kernel), List.mem_of_getElem? (i := 647) (by decide +kernel), List.mem_of_getElem? (i := 648) (by decide +kernel)⟩
theorem lw_p36 : lw_okq (⟨"GossipNodesModel", "learn", "(IIIII)V"⟩, 28) := ⟨⟨by decide +kernel, by decide +kernel⟩, List.mem_of_getElem? (i := 487) (by decide +kernel), List.mem_of_getElem? (i := 651) (by decide +kernel), List.mem_of_getElem? (i := 652) (by decide +kernel)⟩
theorem lw_p37 : lw_okq (⟨"GossipNodesModel", "acknowledged", "(IIII)V"⟩, 28) := ⟨⟨by decide +kernel, by decide +kernel⟩, List.mem_of_getElem? (i := 487) (by decide +kernel), List.mem_of_getElem? (i := 655) (by decide +kernel), List.mem_of_getElem? (i := 656) (by decide +kernel)⟩
theorem lw_p38 : lw_okq (⟨"GossipNodesModel", "relayOf", "(IIII)I"⟩, 28) := ⟨⟨by decide +kernel, by decide +kernel⟩, List.mem_of_getElem? (i := 487) (by decide +kernel), List.mem_of_getElem? (i := 659) (by decide +kernel), List.mem_of_getElem? (i := 660) (by decide +kernel)⟩
theorem lw_p39 : lw_okq (⟨"GossipNodesModel", "removeRelay", "(II)V"⟩, 28) := ⟨⟨by decide +kernel, by decide +kernel⟩, List.mem_of_getElem? (i := 487) (by decide +kernel), List.mem_of_getElem? (i := 663) (by decide +kernel), List.mem_of_getElem? (i := 664) (by decide +kernel)⟩
theorem lw_p40 : lw_okq (⟨"GossipNodesModel", "help", "(IIII)V"⟩, 28) := ⟨⟨by decide +kernel, by decide +kernel⟩, List.mem_of_getElem? (i := 487) (by decide +kernel), List.mem_of_getElem? (i := 667) (by decide +kernel), List.mem_of_getElem? (i := 668) (by decide +kernel)⟩
theorem lw_p41 : lw_okq (⟨"GossipNodesModel", "time", "(I)V"⟩, 28) := ⟨⟨by decide +kernel, by decide +kernel⟩, List.mem_of_getElem? (i := 487) (by decide +kernel), List.mem_of_getElem? (i := 671) (by decide +kernel), List.mem_of_getElem? (i := 672) (by decide +kernel)⟩
theorem lw_p42 : lw_okq (⟨"GossipNodesModel", "ageRelays", "(I)V"⟩, 28) := ⟨⟨by decide +kernel, by decide +kernel⟩, List.mem_of_getElem? (i := 487) (by decide +kernel), List.mem_of_getElem? (i := 675) (by decide +kernel), List.mem_of_getElem? (i := 676) (by decide +kernel)⟩
theorem lw_p43 : lw_okq (⟨"GossipNodesModel", "expire", "(I)V"⟩, 28) := ⟨⟨by decide +kernel, by decide +kernel⟩, List.mem_of_getElem? (i := 487) (by decide +kernel), List.mem_of_getElem? (i := 679) (by decide +kernel), List.mem_of_getElem? (i := 680) (by decide +kernel)⟩
theorem lw_p44 : lw_okq (⟨"GossipNodesModel", "probe", "(I)V"⟩, 28) := ⟨⟨by decide +kernel, by decide +kernel⟩, List.mem_of_getElem? (i := 487) (by decide +kernel), List.mem_of_getElem? (i := 686) (by decide +kernel), List.mem_of_getElem? (i := 687) (by decide +kernel)⟩
theorem lw_p45 : lw_okq (⟨"GossipNodesModel", "begin", "(I)V"⟩, 28) := ⟨⟨by decide +kernel, by decide +kernel⟩, List.mem_of_getElem? (i := 487) (by decide +kernel), List.mem_of_getElem? (i := 690) (by decide +kernel), List.mem_of_getElem? (i := 691) (by decide +kernel)⟩
theorem lw_p46 : lw_okq (⟨"GossipNodesModel", "nextOf", "(IIIZ)I"⟩, 28) := ⟨⟨by decide +kernel, by decide +kernel⟩, List.mem_of_getElem? (i := 487) (by decide +kernel), List.mem_of_getElem? (i := 694) (by decide +kernel), List.mem_of_getElem? (i := 695) (by decide +kernel)⟩
theorem lw_p47 : lw_okq (⟨"GossipNodesModel", "askOthers", "(I)V"⟩, 28) := ⟨⟨by decide +kernel, by decide +kernel⟩, List.mem_of_getElem? (i := 487) (by decide +kernel), List.mem_of_getElem? (i := 698) (by decide +kernel), List.mem_of_getElem? (i := 699) (by decide +kernel)⟩
def lw_privs_3 : List (MethodName × Nat) := [(⟨"GossipNodesModel", "addTable", "(I)V"⟩, 28), (⟨"GossipNodesModel", "isRunning", "(I)Z"⟩, 28), (⟨"GossipNodesModel", "remove", "(I)V"⟩, 28), (⟨"GossipNodesModel", "arrive", "()Z"⟩, 28), (⟨"GossipNodesModel", "learn", "(IIIII)V"⟩, 28), (⟨"GossipNodesModel", "acknowledged", "(IIII)V"⟩, 28), (⟨"GossipNodesModel", "relayOf", "(IIII)I"⟩, 28), (⟨"GossipNodesModel", "removeRelay", "(II)V"⟩, 28), (⟨"GossipNodesModel", "help", "(IIII)V"⟩, 28), (⟨"GossipNodesModel", "time", "(I)V"⟩, 28), (⟨"GossipNodesModel", "ageRelays", "(I)V"⟩, 28), (⟨"GossipNodesModel", "expire", "(I)V"⟩, 28), (⟨"GossipNodesModel", "probe", "(I)V"⟩, 28), (⟨"GossipNodesModel", "begin", "(I)V"⟩, 28), (⟨"GossipNodesModel", "nextOf", "(IIIZ)I"⟩, 28), (⟨"GossipNodesModel", "askOthers", "(I)V"⟩, 28)]
theorem lw_r3 : ∀ q ∈ lw_privs_3, lw_okq q := List.forall_mem_cons.mpr ⟨lw_p32, List.forall_mem_cons.mpr ⟨lw_p33, List.forall_mem_cons.mpr ⟨lw_p34, List.forall_mem_cons.mpr ⟨lw_p35, List.forall_mem_cons.mpr ⟨lw_p36, List.forall_mem_cons.mpr ⟨lw_p37, List.forall_mem_cons.mpr ⟨lw_p38, List.forall_mem_cons.mpr ⟨lw_p39, List.forall_mem_cons.mpr ⟨lw_p40, List.forall_mem_cons.mpr ⟨lw_p41, List.forall_mem_cons.mpr ⟨lw_p42, List.forall_mem_cons.mpr ⟨lw_p43, List.forall_mem_cons.mpr ⟨lw_p44, List.forall_mem_cons.mpr ⟨lw_p45, List.forall_mem_cons.mpr ⟨lw_p46, List.forall_mem_cons.mpr ⟨lw_p47, fun _ h => absurd h List.not_mem_nil⟩⟩⟩⟩⟩⟩⟩⟩⟩⟩⟩⟩⟩⟩⟩⟩
theorem lw_p48 : lw_okq (⟨"GossipNodesModel", "end", "(I)V"⟩, 28) := ⟨⟨by decide +kernel, by decide +kernel⟩, List.mem_of_getElem? (i := 487) (by decide +kernel), List.mem_of_getElem? (i := 702) (by decide +kernel), List.mem_of_getElem? (i := 703) (by decide +kernel)⟩
theorem lw_p49 : lw_okq (⟨"GossipNodesModel", "newsOf", "(I)I"⟩, 28) := ⟨⟨by decide +kernel, by decide +kernel⟩, List.mem_of_getElem? (i := 487) (by decide +kernel), List.mem_of_getElem? (i := 726) (by decide +kernel), List.mem_of_getElem? (i := 727) (by decide +kernel)⟩
def lw_privs_4 : List (MethodName × Nat) := [(⟨"GossipNodesModel", "end", "(I)V"⟩, 28), (⟨"GossipNodesModel", "newsOf", "(I)I"⟩, 28)]
theorem lw_r4 : ∀ q ∈ lw_privs_4, lw_okq q := List.forall_mem_cons.mpr ⟨lw_p48, List.forall_mem_cons.mpr ⟨lw_p49, fun _ h => absurd h List.not_mem_nil⟩⟩
def lw_privs : List (MethodName × Nat) := lw_privs_1 ++ (lw_privs_2 ++ (lw_privs_3 ++ (lw_privs_4)))
def lw_tbl : List Cond := k2_sels lw_privs ++ tables_1
theorem lw_privs_ok : ∀ q ∈ lw_privs, lw_okq q := by
  show ∀ q ∈ lw_privs_1 ++ (lw_privs_2 ++ (lw_privs_3 ++ (lw_privs_4))), lw_okq q
  exact List.forall_mem_append.mpr ⟨lw_r1, List.forall_mem_append.mpr ⟨lw_r2, List.forall_mem_append.mpr ⟨lw_r3, lw_r4⟩⟩⟩
end
section
/-! class tables, the list of words, names of methods (written by gen/names.py) -/
def qR_E : String := "GossipNodes$Entry"
def qT_E : u_T := fun k => match k with
  | 0 => ("GossipNodes$Entry", "state", "I", false)
  | 1 => ("GossipNodes$Entry", "incarnation", "I", false)
  | 2 => ("GossipNodes$Entry", "since", "I", false)
  | 3 => ("GossipNodes$Entry", "confirmers", "I", false)
  | _ => ("GossipNodes$Entry", "sendings", "I", false)
def qt_E : Nat → FieldType := fun k => match k with
  | 0 => .int
  | 1 => .int
  | 2 => .int
  | 3 => .int
  | _ => .int
theorem qn_E : ∀ a, a < 5 → ∀ b, b < 5 → a ≠ b → (qT_E a).2.1 ≠ (qT_E b).2.1 := by decide +kernel
theorem qk_E : ∀ k, k < 5 → parseFieldDescriptor (qT_E k).2.2.1 = some (qt_E k) := by decide +kernel
def qR_F : String := "GossipNodes$Flight"
def qT_F : u_T := fun k => match k with
  | 0 => ("GossipNodes$Flight", "waiting", "[LGossipNodes$Message;", false)
  | 1 => ("GossipNodes$Flight", "landed", "[LGossipNodes$Message;", false)
  | 2 => ("GossipNodes$Flight", "lost", "LGossipNodes$Message;", true)
  | _ => ("GossipNodes$Flight", "size", "I", false)
def qt_F : Nat → FieldType := fun k => match k with
  | 0 => .array (.object "GossipNodes$Message")
  | 1 => .array (.object "GossipNodes$Message")
  | 2 => .object "GossipNodes$Message"
  | _ => .int
theorem qn_F : ∀ a, a < 4 → ∀ b, b < 4 → a ≠ b → (qT_F a).2.1 ≠ (qT_F b).2.1 := by decide +kernel
theorem qk_F : ∀ k, k < 4 → parseFieldDescriptor (qT_F k).2.2.1 = some (qt_F k) := by decide +kernel
def qR_M : String := "GossipNodes$Message"
def qT_M : u_T := fun k => match k with
  | 0 => ("GossipNodes$Message", "kind", "I", false)
  | 1 => ("GossipNodes$Message", "sender", "I", false)
  | 2 => ("GossipNodes$Message", "receiver", "I", false)
  | 3 => ("GossipNodes$Message", "number", "I", false)
  | 4 => ("GossipNodes$Message", "origin", "I", false)
  | 5 => ("GossipNodes$Message", "target", "I", false)
  | 6 => ("GossipNodes$Message", "newsCount", "I", false)
  | _ => ("GossipNodes$Message", "news", "[I", true)
def qt_M : Nat → FieldType := fun k => match k with
  | 0 => .int
  | 1 => .int
  | 2 => .int
  | 3 => .int
  | 4 => .int
  | 5 => .int
  | 6 => .int
  | _ => .array (.int)
theorem qn_M : ∀ a, a < 8 → ∀ b, b < 8 → a ≠ b → (qT_M a).2.1 ≠ (qT_M b).2.1 := by decide +kernel
theorem qk_M : ∀ k, k < 8 → parseFieldDescriptor (qT_M k).2.2.1 = some (qt_M k) := by decide +kernel
def qR_N : String := "GossipNodes$Node"
def qT_N : u_T := fun k => match k with
  | 0 => ("GossipNodes$Node", "id", "I", true)
  | 1 => ("GossipNodes$Node", "count", "I", true)
  | 2 => ("GossipNodes$Node", "flight", "LGossipNodes$Flight;", true)
  | 3 => ("GossipNodes$Node", "table", "[LGossipNodes$Entry;", true)
  | 4 => ("GossipNodes$Node", "relays", "[LGossipNodes$Relay;", true)
  | 5 => ("GossipNodes$Node", "runs", "Z", false)
  | 6 => ("GossipNodes$Node", "began", "I", false)
  | 7 => ("GossipNodes$Node", "score", "I", false)
  | 8 => ("GossipNodes$Node", "relayCount", "I", false)
  | 9 => ("GossipNodes$Node", "rest", "I", false)
  | 10 => ("GossipNodes$Node", "probeNumber", "I", false)
  | 11 => ("GossipNodes$Node", "probed", "I", false)
  | 12 => ("GossipNodes$Node", "lastProbed", "I", false)
  | 13 => ("GossipNodes$Node", "clock", "I", false)
  | 14 => ("GossipNodes$Node", "answered", "Z", false)
  | 15 => ("GossipNodes$Node", "asked", "I", false)
  | 16 => ("GossipNodes$Node", "nacks", "I", false)
  | _ => ("GossipNodes$Node", "lastSynced", "I", false)
def qt_N : Nat → FieldType := fun k => match k with
  | 0 => .int
  | 1 => .int
  | 2 => .object "GossipNodes$Flight"
  | 3 => .array (.object "GossipNodes$Entry")
  | 4 => .array (.object "GossipNodes$Relay")
  | 5 => .boolean
  | 6 => .int
  | 7 => .int
  | 8 => .int
  | 9 => .int
  | 10 => .int
  | 11 => .int
  | 12 => .int
  | 13 => .int
  | 14 => .boolean
  | 15 => .int
  | 16 => .int
  | _ => .int
theorem qn_N : ∀ a, a < 18 → ∀ b, b < 18 → a ≠ b → (qT_N a).2.1 ≠ (qT_N b).2.1 := by decide +kernel
theorem qk_N : ∀ k, k < 18 → parseFieldDescriptor (qT_N k).2.2.1 = some (qt_N k) := by decide +kernel
def qR_R : String := "GossipNodes$Relay"
def qT_R : u_T := fun k => match k with
  | 0 => ("GossipNodes$Relay", "number", "I", false)
  | 1 => ("GossipNodes$Relay", "origin", "I", false)
  | 2 => ("GossipNodes$Relay", "target", "I", false)
  | _ => ("GossipNodes$Relay", "age", "I", false)
def qt_R : Nat → FieldType := fun k => match k with
  | 0 => .int
  | 1 => .int
  | 2 => .int
  | _ => .int
theorem qn_R : ∀ a, a < 4 → ∀ b, b < 4 → a ≠ b → (qT_R a).2.1 ≠ (qT_R b).2.1 := by decide +kernel
theorem qk_R : ∀ k, k < 4 → parseFieldDescriptor (qT_R k).2.2.1 = some (qt_R k) := by decide +kernel
def qR_G : String := "GossipNodes"
def qT_G : u_T := fun k => match k with
  | 0 => ("GossipNodes", "count", "I", true)
  | 1 => ("GossipNodes", "nodes", "[LGossipNodes$Node;", true)
  | 2 => ("GossipNodes", "cutFrom", "[I", true)
  | 3 => ("GossipNodes", "onTheWay", "LGossipNodes$Flight;", true)
  | _ => ("GossipNodes", "time", "I", false)
def qt_G : Nat → FieldType := fun k => match k with
  | 0 => .int
  | 1 => .array (.object "GossipNodes$Node")
  | 2 => .array (.int)
  | 3 => .object "GossipNodes$Flight"
  | _ => .int
theorem qn_G : ∀ a, a < 5 → ∀ b, b < 5 → a ≠ b → (qT_G a).2.1 ≠ (qT_G b).2.1 := by decide +kernel
theorem qk_G : ∀ k, k < 5 → parseFieldDescriptor (qT_G k).2.2.1 = some (qt_G k) := by decide +kernel
def qR_Z : String := "GossipNodesModel"
def qT_Z : u_T := fun k => match k with
  | 0 => ("GossipNodesModel", "nodes", "I", false)
  | 1 => ("GossipNodesModel", "now", "I", false)
  | 2 => ("GossipNodesModel", "flight", "I", false)
  | 3 => ("GossipNodesModel", "messages", "[I", false)
  | 4 => ("GossipNodesModel", "taken", "[I", false)
  | 5 => ("GossipNodesModel", "cut", "[Z", false)
  | 6 => ("GossipNodesModel", "runs", "[Z", false)
  | 7 => ("GossipNodesModel", "began", "[I", false)
  | 8 => ("GossipNodesModel", "score", "[I", false)
  | 9 => ("GossipNodesModel", "state", "[I", false)
  | 10 => ("GossipNodesModel", "incarnation", "[I", false)
  | 11 => ("GossipNodesModel", "since", "[I", false)
  | 12 => ("GossipNodesModel", "confirmed", "[I", false)
  | 13 => ("GossipNodesModel", "sendings", "[I", false)
  | 14 => ("GossipNodesModel", "newsState", "[I", false)
  | 15 => ("GossipNodesModel", "newsIncarnation", "[I", false)
  | 16 => ("GossipNodesModel", "relays", "[I", false)
  | 17 => ("GossipNodesModel", "relay", "[I", false)
  | 18 => ("GossipNodesModel", "probes", "[Z", false)
  | 19 => ("GossipNodesModel", "target", "[I", false)
  | 20 => ("GossipNodesModel", "clock", "[I", false)
  | 21 => ("GossipNodesModel", "answered", "[Z", false)
  | 22 => ("GossipNodesModel", "number", "[I", false)
  | 23 => ("GossipNodesModel", "rest", "[I", false)
  | 24 => ("GossipNodesModel", "asked", "[I", false)
  | 25 => ("GossipNodesModel", "nacks", "[I", false)
  | 26 => ("GossipNodesModel", "probed", "[I", false)
  | _ => ("GossipNodesModel", "synced", "[I", false)
def qt_Z : Nat → FieldType := fun k => match k with
  | 0 => .int
  | 1 => .int
  | 2 => .int
  | 3 => .array (.int)
  | 4 => .array (.int)
  | 5 => .array (.boolean)
  | 6 => .array (.boolean)
  | 7 => .array (.int)
  | 8 => .array (.int)
  | 9 => .array (.int)
  | 10 => .array (.int)
  | 11 => .array (.int)
  | 12 => .array (.int)
  | 13 => .array (.int)
  | 14 => .array (.int)
  | 15 => .array (.int)
  | 16 => .array (.int)
  | 17 => .array (.int)
  | 18 => .array (.boolean)
  | 19 => .array (.int)
  | 20 => .array (.int)
  | 21 => .array (.boolean)
  | 22 => .array (.int)
  | 23 => .array (.int)
  | 24 => .array (.int)
  | 25 => .array (.int)
  | 26 => .array (.int)
  | _ => .array (.int)
theorem qn_Z : ∀ a, a < 28 → ∀ b, b < 28 → a ≠ b → (qT_Z a).2.1 ≠ (qT_Z b).2.1 := by decide +kernel
theorem qk_Z : ∀ k, k < 28 → parseFieldDescriptor (qT_Z k).2.2.1 = some (qt_Z k) := by decide +kernel
def gCl : List vw_C := [(qR_E, qT_E, 5), (qR_F, qT_F, 4), (qR_M, qT_M, 8), (qR_N, qT_N, 18), (qR_R, qT_R, 4), (qR_G, qT_G, 5), (qR_Z, qT_Z, 28)]
def gNf : Nat → Nat := fun c => match c with
  | 0 => 5
  | 1 => 4
  | 2 => 8
  | 3 => 18
  | 4 => 4
  | 5 => 5
  | 6 => 28
  | _ => 0
def gRf : Nat → Nat → Bool := fun c f => match c with
  | 0 => false
  | 1 => f == 0 || f == 1 || f == 2
  | 2 => f == 7
  | 3 => f == 2 || f == 3 || f == 4
  | 4 => false
  | 5 => f == 1 || f == 2 || f == 3
  | 6 => f == 3 || f == 4 || f == 5 || f == 6 || f == 7 || f == 8 || f == 9 || f == 10 || f == 11 || f == 12 || f == 13 || f == 14 || f == 15 || f == 16 || f == 17 || f == 18 || f == 19 || f == 20 || f == 21 || f == 22 || f == 23 || f == 24 || f == 25 || f == 26 || f == 27
  | _ => false
/-- the words that go along with every call -/
def gTb : List Cond := lw_tbl.filter goodWord
theorem gTb_good : ∀ w ∈ gTb, goodWord w = true := fun w h => (List.mem_filter.mp h).2
theorem gTb_at {i : Nat} {w : Cond} (h : tables_1[i]? = some w) (hg : goodWord w = true) : w ∈ gTb := List.mem_filter.mpr ⟨List.mem_append_right _ (List.mem_of_getElem? h), hg⟩
theorem gTb_1 {i : Nat} {w : Cond} (h : tables_1_1[i]? = some w) (hg : goodWord w = true) : w ∈ gTb := List.mem_filter.mpr ⟨List.mem_append_right _ (List.mem_append_left _ (List.mem_of_getElem? h)), hg⟩
theorem gTb_2 {i : Nat} {w : Cond} (h : tables_1_2[i]? = some w) (hg : goodWord w = true) : w ∈ gTb := List.mem_filter.mpr ⟨List.mem_append_right _ (List.mem_append_right _ (List.mem_append_left _ (List.mem_of_getElem? h))), hg⟩
theorem gTb_3 {i : Nat} {w : Cond} (h : tables_1_3[i]? = some w) (hg : goodWord w = true) : w ∈ gTb := List.mem_filter.mpr ⟨List.mem_append_right _ (List.mem_append_right _ (List.mem_append_right _ (List.mem_append_left _ (List.mem_of_getElem? h)))), hg⟩
theorem gTb_4 {i : Nat} {w : Cond} (h : tables_1_4[i]? = some w) (hg : goodWord w = true) : w ∈ gTb := List.mem_filter.mpr ⟨List.mem_append_right _ (List.mem_append_right _ (List.mem_append_right _ (List.mem_append_right _ (List.mem_of_getElem? h)))), hg⟩
theorem gTb_sel {i : Nat} {q : MethodName × Nat} (h : lw_privs[i]? = some q) : Cond.selects q.1.cls q.1 q.1 ∈ gTb := List.mem_filter.mpr ⟨List.mem_append_left _ (List.mem_map.mpr ⟨q, List.mem_of_getElem? h, rfl⟩), rfl⟩
theorem qu_E : ∀ w ∈ u_ws qR_E qT_E 5, w ∈ gTb := by
  intro w h
  obtain ⟨k, hk, rfl⟩ := List.mem_map.mp h
  have hk := List.mem_range.mp hk
  match k, hk with
  | 0, _ => exact (gTb_1 (i := 122) (by rfl) rfl)
  | 1, _ => exact (gTb_1 (i := 124) (by rfl) rfl)
  | 2, _ => exact (gTb_1 (i := 126) (by rfl) rfl)
  | 3, _ => exact (gTb_1 (i := 128) (by rfl) rfl)
  | 4, _ => exact (gTb_1 (i := 130) (by rfl) rfl)
  | k + 5, hk => exact absurd hk (by omega)
theorem qu_F : ∀ w ∈ u_ws qR_F qT_F 4, w ∈ gTb := by
  intro w h
  obtain ⟨k, hk, rfl⟩ := List.mem_map.mp h
  have hk := List.mem_range.mp hk
  match k, hk with
  | 0, _ => exact (gTb_1 (i := 82) (by rfl) rfl)
  | 1, _ => exact (gTb_1 (i := 84) (by rfl) rfl)
  | 2, _ => exact (gTb_1 (i := 86) (by rfl) rfl)
  | 3, _ => exact (gTb_1 (i := 88) (by rfl) rfl)
  | k + 4, hk => exact absurd hk (by omega)
theorem qu_M : ∀ w ∈ u_ws qR_M qT_M 8, w ∈ gTb := by
  intro w h
  obtain ⟨k, hk, rfl⟩ := List.mem_map.mp h
  have hk := List.mem_range.mp hk
  match k, hk with
  | 0, _ => exact (gTb_1 (i := 57) (by rfl) rfl)
  | 1, _ => exact (gTb_1 (i := 59) (by rfl) rfl)
  | 2, _ => exact (gTb_1 (i := 61) (by rfl) rfl)
  | 3, _ => exact (gTb_1 (i := 63) (by rfl) rfl)
  | 4, _ => exact (gTb_1 (i := 65) (by rfl) rfl)
  | 5, _ => exact (gTb_1 (i := 67) (by rfl) rfl)
  | 6, _ => exact (gTb_1 (i := 69) (by rfl) rfl)
  | 7, _ => exact (gTb_1 (i := 71) (by rfl) rfl)
  | k + 8, hk => exact absurd hk (by omega)
theorem qu_N : ∀ w ∈ u_ws qR_N qT_N 18, w ∈ gTb := by
  intro w h
  obtain ⟨k, hk, rfl⟩ := List.mem_map.mp h
  have hk := List.mem_range.mp hk
  match k, hk with
  | 0, _ => exact (gTb_1 (i := 174) (by rfl) rfl)
  | 1, _ => exact (gTb_1 (i := 176) (by rfl) rfl)
  | 2, _ => exact (gTb_1 (i := 178) (by rfl) rfl)
  | 3, _ => exact (gTb_1 (i := 180) (by rfl) rfl)
  | 4, _ => exact (gTb_1 (i := 182) (by rfl) rfl)
  | 5, _ => exact (gTb_1 (i := 184) (by rfl) rfl)
  | 6, _ => exact (gTb_1 (i := 186) (by rfl) rfl)
  | 7, _ => exact (gTb_1 (i := 188) (by rfl) rfl)
  | 8, _ => exact (gTb_1 (i := 190) (by rfl) rfl)
  | 9, _ => exact (gTb_1 (i := 192) (by rfl) rfl)
  | 10, _ => exact (gTb_1 (i := 194) (by rfl) rfl)
  | 11, _ => exact (gTb_1 (i := 196) (by rfl) rfl)
  | 12, _ => exact (gTb_1 (i := 198) (by rfl) rfl)
  | 13, _ => exact (gTb_1 (i := 200) (by rfl) rfl)
  | 14, _ => exact (gTb_1 (i := 202) (by rfl) rfl)
  | 15, _ => exact (gTb_1 (i := 204) (by rfl) rfl)
  | 16, _ => exact (gTb_1 (i := 206) (by rfl) rfl)
  | 17, _ => exact (gTb_1 (i := 208) (by rfl) rfl)
  | k + 18, hk => exact absurd hk (by omega)
theorem qu_R : ∀ w ∈ u_ws qR_R qT_R 4, w ∈ gTb := by
  intro w h
  obtain ⟨k, hk, rfl⟩ := List.mem_map.mp h
  have hk := List.mem_range.mp hk
  match k, hk with
  | 0, _ => exact (gTb_1 (i := 145) (by rfl) rfl)
  | 1, _ => exact (gTb_1 (i := 147) (by rfl) rfl)
  | 2, _ => exact (gTb_1 (i := 149) (by rfl) rfl)
  | 3, _ => exact (gTb_1 (i := 151) (by rfl) rfl)
  | k + 4, hk => exact absurd hk (by omega)
theorem qu_G : ∀ w ∈ u_ws qR_G qT_G 5, w ∈ gTb := by
  intro w h
  obtain ⟨k, hk, rfl⟩ := List.mem_map.mp h
  have hk := List.mem_range.mp hk
  match k, hk with
  | 0, _ => exact (gTb_1 (i := 216) (by rfl) rfl)
  | 1, _ => exact (gTb_1 (i := 218) (by rfl) rfl)
  | 2, _ => exact (gTb_1 (i := 220) (by rfl) rfl)
  | 3, _ => exact (gTb_1 (i := 222) (by rfl) rfl)
  | 4, _ => exact (gTb_1 (i := 224) (by rfl) rfl)
  | k + 5, hk => exact absurd hk (by omega)
theorem qu_Z : ∀ w ∈ u_ws qR_Z qT_Z 28, w ∈ gTb := by
  intro w h
  obtain ⟨k, hk, rfl⟩ := List.mem_map.mp h
  have hk := List.mem_range.mp hk
  match k, hk with
  | 0, _ => exact (gTb_3 (i := 40) (by rfl) rfl)
  | 1, _ => exact (gTb_3 (i := 42) (by rfl) rfl)
  | 2, _ => exact (gTb_3 (i := 44) (by rfl) rfl)
  | 3, _ => exact (gTb_3 (i := 46) (by rfl) rfl)
  | 4, _ => exact (gTb_3 (i := 48) (by rfl) rfl)
  | 5, _ => exact (gTb_3 (i := 50) (by rfl) rfl)
  | 6, _ => exact (gTb_3 (i := 52) (by rfl) rfl)
  | 7, _ => exact (gTb_3 (i := 54) (by rfl) rfl)
  | 8, _ => exact (gTb_3 (i := 56) (by rfl) rfl)
  | 9, _ => exact (gTb_3 (i := 58) (by rfl) rfl)
  | 10, _ => exact (gTb_3 (i := 60) (by rfl) rfl)
  | 11, _ => exact (gTb_3 (i := 62) (by rfl) rfl)
  | 12, _ => exact (gTb_3 (i := 64) (by rfl) rfl)
  | 13, _ => exact (gTb_3 (i := 66) (by rfl) rfl)
  | 14, _ => exact (gTb_3 (i := 68) (by rfl) rfl)
  | 15, _ => exact (gTb_3 (i := 70) (by rfl) rfl)
  | 16, _ => exact (gTb_3 (i := 72) (by rfl) rfl)
  | 17, _ => exact (gTb_3 (i := 74) (by rfl) rfl)
  | 18, _ => exact (gTb_3 (i := 76) (by rfl) rfl)
  | 19, _ => exact (gTb_3 (i := 78) (by rfl) rfl)
  | 20, _ => exact (gTb_3 (i := 80) (by rfl) rfl)
  | 21, _ => exact (gTb_3 (i := 82) (by rfl) rfl)
  | 22, _ => exact (gTb_3 (i := 84) (by rfl) rfl)
  | 23, _ => exact (gTb_3 (i := 86) (by rfl) rfl)
  | 24, _ => exact (gTb_3 (i := 88) (by rfl) rfl)
  | 25, _ => exact (gTb_3 (i := 90) (by rfl) rfl)
  | 26, _ => exact (gTb_3 (i := 92) (by rfl) rfl)
  | 27, _ => exact (gTb_3 (i := 94) (by rfl) rfl)
  | k + 28, hk => exact absurd hk (by omega)
abbrev qc_G_init : ByteArray := prog_1_method_1_code
def qy_G_init : MethodName := ⟨"GossipNodes", "<init>", "(I)V"⟩
def qw_G_init : List Cond := .code qy_G_init qc_G_init 3 none :: gTb
theorem qi_G_init : Cond.code qy_G_init qc_G_init 3 none ∈ gTb := (gTb_1 (i := 14) (by rfl) rfl)
abbrev qc_F_init : ByteArray := prog_3_method_1_code
def qy_F_init : MethodName := ⟨"GossipNodes$Flight", "<init>", "()V"⟩
def qw_F_init : List Cond := .code qy_F_init qc_F_init 2 none :: gTb
theorem qi_F_init : Cond.code qy_F_init qc_F_init 2 none ∈ gTb := (gTb_1 (i := 28) (by rfl) rfl)
abbrev qc_M_init : ByteArray := prog_4_method_1_code
def qy_M_init : MethodName := ⟨"GossipNodes$Message", "<init>", "()V"⟩
def qw_M_init : List Cond := .code qy_M_init qc_M_init 1 none :: gTb
theorem qi_M_init : Cond.code qy_M_init qc_M_init 1 none ∈ gTb := (gTb_1 (i := 35) (by rfl) rfl)
abbrev qc_N_init : ByteArray := prog_5_method_1_code
def qy_N_init : MethodName := ⟨"GossipNodes$Node", "<init>", "(IILGossipNodes$Flight;)V"⟩
def qw_N_init : List Cond := .code qy_N_init qc_N_init 5 none :: gTb
theorem qi_N_init : Cond.code qy_N_init qc_N_init 5 none ∈ gTb := (gTb_1 (i := 96) (by rfl) rfl)
abbrev qc_E_init : ByteArray := prog_2_method_1_code
def qy_E_init : MethodName := ⟨"GossipNodes$Entry", "<init>", "()V"⟩
def qw_E_init : List Cond := .code qy_E_init qc_E_init 1 none :: gTb
theorem qi_E_init : Cond.code qy_E_init qc_E_init 1 none ∈ gTb := (gTb_1 (i := 105) (by rfl) rfl)
abbrev qc_R_init : ByteArray := prog_6_method_1_code
def qy_R_init : MethodName := ⟨"GossipNodes$Relay", "<init>", "()V"⟩
def qw_R_init : List Cond := .code qy_R_init qc_R_init 1 none :: gTb
theorem qi_R_init : Cond.code qy_R_init qc_R_init 1 none ∈ gTb := (gTb_1 (i := 136) (by rfl) rfl)
abbrev qc_G_start : ByteArray := prog_1_method_2_code
def qy_G_start : MethodName := ⟨"GossipNodes", "start", "(II)Z"⟩
def qw_G_start : List Cond := .code qy_G_start qc_G_start 3 (some .boolean) :: gTb
theorem qi_G_start : Cond.code qy_G_start qc_G_start 3 (some .boolean) ∈ gTb := (gTb_1 (i := 230) (by rfl) rfl)
abbrev qc_G_isNode : ByteArray := prog_1_method_16_code
def qy_G_isNode : MethodName := ⟨"GossipNodes", "isNode", "(I)Z"⟩
def qw_G_isNode : List Cond := .code qy_G_isNode qc_G_isNode 2 (some .boolean) :: gTb
theorem qi_G_isNode : Cond.code qy_G_isNode qc_G_isNode 2 (some .boolean) ∈ gTb := (gTb_1 (i := 234) (by rfl) rfl)
abbrev qc_N_begin : ByteArray := prog_5_method_2_code
def qy_N_begin : MethodName := ⟨"GossipNodes$Node", "begin", "(I)V"⟩
def qw_N_begin : List Cond := .code qy_N_begin qc_N_begin 3 none :: gTb
theorem qi_N_begin : Cond.code qy_N_begin qc_N_begin 3 none ∈ gTb := (gTb_1 (i := 238) (by rfl) rfl)
abbrev qc_E_forget : ByteArray := prog_2_method_2_code
def qy_E_forget : MethodName := ⟨"GossipNodes$Entry", "forget", "()V"⟩
def qw_E_forget : List Cond := .code qy_E_forget qc_E_forget 1 none :: gTb
theorem qi_E_forget : Cond.code qy_E_forget qc_E_forget 1 none ∈ gTb := (gTb_2 (i := 2) (by rfl) rfl)
abbrev qc_E_become : ByteArray := prog_2_method_3_code
def qy_E_become : MethodName := ⟨"GossipNodes$Entry", "become", "(III)V"⟩
def qw_E_become : List Cond := .code qy_E_become qc_E_become 4 none :: gTb
theorem qi_E_become : Cond.code qy_E_become qc_E_become 4 none ∈ gTb := (gTb_2 (i := 6) (by rfl) rfl)
abbrev qc_E_announce : ByteArray := prog_2_method_5_code
def qy_E_announce : MethodName := ⟨"GossipNodes$Entry", "announce", "()V"⟩
def qw_E_announce : List Cond := .code qy_E_announce qc_E_announce 1 none :: gTb
theorem qi_E_announce : Cond.code qy_E_announce qc_E_announce 1 none ∈ gTb := (gTb_2 (i := 10) (by rfl) rfl)
abbrev qc_N_send : ByteArray := prog_5_method_4_code
def qy_N_send : MethodName := ⟨"GossipNodes$Node", "send", "(IIIII)V"⟩
def qw_N_send : List Cond := .code qy_N_send qc_N_send 7 none :: gTb
theorem qi_N_send : Cond.code qy_N_send qc_N_send 7 none ∈ gTb := (gTb_2 (i := 14) (by rfl) rfl)
abbrev qc_F_next : ByteArray := prog_3_method_2_code
def qy_F_next : MethodName := ⟨"GossipNodes$Flight", "next", "()LGossipNodes$Message;"⟩
def qw_F_next : List Cond := .code qy_F_next qc_F_next 1 (some (.object "GossipNodes$Message")) :: gTb
theorem qi_F_next : Cond.code qy_F_next qc_F_next 1 (some (.object "GossipNodes$Message")) ∈ gTb := (gTb_2 (i := 18) (by rfl) rfl)
abbrev qc_M_address : ByteArray := prog_4_method_2_code
def qy_M_address : MethodName := ⟨"GossipNodes$Message", "address", "(III)V"⟩
def qw_M_address : List Cond := .code qy_M_address qc_M_address 4 none :: gTb
theorem qi_M_address : Cond.code qy_M_address qc_M_address 4 none ∈ gTb := (gTb_2 (i := 22) (by rfl) rfl)
abbrev qc_M_concern : ByteArray := prog_4_method_3_code
def qy_M_concern : MethodName := ⟨"GossipNodes$Message", "concern", "(III)V"⟩
def qw_M_concern : List Cond := .code qy_M_concern qc_M_concern 4 none :: gTb
theorem qi_M_concern : Cond.code qy_M_concern qc_M_concern 4 none ∈ gTb := (gTb_2 (i := 26) (by rfl) rfl)
abbrev qc_N_loadTable : ByteArray := prog_5_method_5_code
def qy_N_loadTable : MethodName := ⟨"GossipNodes$Node", "loadTable", "(LGossipNodes$Message;)V"⟩
def qw_N_loadTable : List Cond := .code qy_N_loadTable qc_N_loadTable 3 none :: gTb
theorem qi_N_loadTable : Cond.code qy_N_loadTable qc_N_loadTable 3 none ∈ gTb := (gTb_2 (i := 30) (by rfl) rfl)
abbrev qc_M_carry : ByteArray := prog_4_method_4_code
def qy_M_carry : MethodName := ⟨"GossipNodes$Message", "carry", "(ILGossipNodes$Entry;)V"⟩
def qw_M_carry : List Cond := .code qy_M_carry qc_M_carry 4 none :: gTb
theorem qi_M_carry : Cond.code qy_M_carry qc_M_carry 4 none ∈ gTb := (gTb_2 (i := 34) (by rfl) rfl)
abbrev qc_N_loadQueued : ByteArray := prog_5_method_6_code
def qy_N_loadQueued : MethodName := ⟨"GossipNodes$Node", "loadQueued", "(LGossipNodes$Message;)V"⟩
def qw_N_loadQueued : List Cond := .code qy_N_loadQueued qc_N_loadQueued 5 none :: gTb
theorem qi_N_loadQueued : Cond.code qy_N_loadQueued qc_N_loadQueued 5 none ∈ gTb := (gTb_2 (i := 38) (by rfl) rfl)
abbrev qc_N_mostToSend : ByteArray := prog_5_method_7_code
def qy_N_mostToSend : MethodName := ⟨"GossipNodes$Node", "mostToSend", "(I)I"⟩
def qw_N_mostToSend : List Cond := .code qy_N_mostToSend qc_N_mostToSend 5 (some .int) :: gTb
theorem qi_N_mostToSend : Cond.code qy_N_mostToSend qc_N_mostToSend 5 (some .int) ∈ gTb := (gTb_2 (i := 42) (by rfl) rfl)
abbrev qc_G_crash : ByteArray := prog_1_method_3_code
def qy_G_crash : MethodName := ⟨"GossipNodes", "crash", "(I)Z"⟩
def qw_G_crash : List Cond := .code qy_G_crash qc_G_crash 2 (some .boolean) :: gTb
theorem qi_G_crash : Cond.code qy_G_crash qc_G_crash 2 (some .boolean) ∈ gTb := (gTb_2 (i := 46) (by rfl) rfl)
abbrev qc_G_isRunning : ByteArray := prog_1_method_17_code
def qy_G_isRunning : MethodName := ⟨"GossipNodes", "isRunning", "(I)Z"⟩
def qw_G_isRunning : List Cond := .code qy_G_isRunning qc_G_isRunning 2 (some .boolean) :: gTb
theorem qi_G_isRunning : Cond.code qy_G_isRunning qc_G_isRunning 2 (some .boolean) ∈ gTb := (gTb_2 (i := 50) (by rfl) rfl)
abbrev qc_G_leave : ByteArray := prog_1_method_4_code
def qy_G_leave : MethodName := ⟨"GossipNodes", "leave", "(I)Z"⟩
def qw_G_leave : List Cond := .code qy_G_leave qc_G_leave 2 (some .boolean) :: gTb
theorem qi_G_leave : Cond.code qy_G_leave qc_G_leave 2 (some .boolean) ∈ gTb := (gTb_2 (i := 54) (by rfl) rfl)
abbrev qc_N_sayFarewell : ByteArray := prog_5_method_3_code
def qy_N_sayFarewell : MethodName := ⟨"GossipNodes$Node", "sayFarewell", "(I)V"⟩
def qw_N_sayFarewell : List Cond := .code qy_N_sayFarewell qc_N_sayFarewell 3 none :: gTb
theorem qi_N_sayFarewell : Cond.code qy_N_sayFarewell qc_N_sayFarewell 3 none ∈ gTb := (gTb_2 (i := 58) (by rfl) rfl)
abbrev qc_G_cut : ByteArray := prog_1_method_5_code
def qy_G_cut : MethodName := ⟨"GossipNodes", "cut", "(IIZ)Z"⟩
def qw_G_cut : List Cond := .code qy_G_cut qc_G_cut 4 (some .boolean) :: gTb
theorem qi_G_cut : Cond.code qy_G_cut qc_G_cut 4 (some .boolean) ∈ gTb := (gTb_2 (i := 63) (by rfl) rfl)
abbrev qc_G_areCut : ByteArray := prog_1_method_18_code
def qy_G_areCut : MethodName := ⟨"GossipNodes", "areCut", "(II)Z"⟩
def qw_G_areCut : List Cond := .code qy_G_areCut qc_G_areCut 3 (some .boolean) :: gTb
theorem qi_G_areCut : Cond.code qy_G_areCut qc_G_areCut 3 (some .boolean) ∈ gTb := (gTb_2 (i := 67) (by rfl) rfl)
abbrev qc_G_drop : ByteArray := prog_1_method_6_code
def qy_G_drop : MethodName := ⟨"GossipNodes", "drop", "(I)Z"⟩
def qw_G_drop : List Cond := .code qy_G_drop qc_G_drop 2 (some .boolean) :: gTb
theorem qi_G_drop : Cond.code qy_G_drop qc_G_drop 2 (some .boolean) ∈ gTb := (gTb_2 (i := 71) (by rfl) rfl)
abbrev qc_F_lose : ByteArray := prog_3_method_3_code
def qy_F_lose : MethodName := ⟨"GossipNodes$Flight", "lose", "(I)Z"⟩
def qw_F_lose : List Cond := .code qy_F_lose qc_F_lose 4 (some .boolean) :: gTb
theorem qi_F_lose : Cond.code qy_F_lose qc_F_lose 4 (some .boolean) ∈ gTb := (gTb_2 (i := 75) (by rfl) rfl)
abbrev qc_G_swap : ByteArray := prog_1_method_7_code
def qy_G_swap : MethodName := ⟨"GossipNodes", "swap", "(I)Z"⟩
def qw_G_swap : List Cond := .code qy_G_swap qc_G_swap 2 (some .boolean) :: gTb
theorem qi_G_swap : Cond.code qy_G_swap qc_G_swap 2 (some .boolean) ∈ gTb := (gTb_2 (i := 79) (by rfl) rfl)
abbrev qc_F_overtake : ByteArray := prog_3_method_4_code
def qy_F_overtake : MethodName := ⟨"GossipNodes$Flight", "overtake", "(I)Z"⟩
def qw_F_overtake : List Cond := .code qy_F_overtake qc_F_overtake 3 (some .boolean) :: gTb
theorem qi_F_overtake : Cond.code qy_F_overtake qc_F_overtake 3 (some .boolean) ∈ gTb := (gTb_2 (i := 83) (by rfl) rfl)
abbrev qc_G_ticks : ByteArray := prog_1_method_8_code
def qy_G_ticks : MethodName := ⟨"GossipNodes", "ticks", "(I)I"⟩
def qw_G_ticks : List Cond := .code qy_G_ticks qc_G_ticks 5 (some .int) :: gTb
theorem qi_G_ticks : Cond.code qy_G_ticks qc_G_ticks 5 (some .int) ∈ gTb := (gTb_2 (i := 87) (by rfl) rfl)
abbrev qc_G_deliverAll : ByteArray := prog_1_method_19_code
def qy_G_deliverAll : MethodName := ⟨"GossipNodes", "deliverAll", "()I"⟩
def qw_G_deliverAll : List Cond := .code qy_G_deliverAll qc_G_deliverAll 6 (some .int) :: gTb
theorem qi_G_deliverAll : Cond.code qy_G_deliverAll qc_G_deliverAll 6 (some .int) ∈ gTb := (gTb_2 (i := 91) (by rfl) rfl)
abbrev qc_F_land : ByteArray := prog_3_method_5_code
def qy_F_land : MethodName := ⟨"GossipNodes$Flight", "land", "()I"⟩
def qw_F_land : List Cond := .code qy_F_land qc_F_land 3 (some .int) :: gTb
theorem qi_F_land : Cond.code qy_F_land qc_F_land 3 (some .int) ∈ gTb := (gTb_2 (i := 95) (by rfl) rfl)
abbrev qc_N_receive : ByteArray := prog_5_method_8_code
def qy_N_receive : MethodName := ⟨"GossipNodes$Node", "receive", "(LGossipNodes$Message;I)V"⟩
def qw_N_receive : List Cond := .code qy_N_receive qc_N_receive 5 none :: gTb
theorem qi_N_receive : Cond.code qy_N_receive qc_N_receive 5 none ∈ gTb := (gTb_2 (i := 99) (by rfl) rfl)
abbrev qc_N_learn : ByteArray := prog_5_method_9_code
def qy_N_learn : MethodName := ⟨"GossipNodes$Node", "learn", "(IIIII)V"⟩
def qw_N_learn : List Cond := .code qy_N_learn qc_N_learn 7 none :: gTb
theorem qi_N_learn : Cond.code qy_N_learn qc_N_learn 7 none ∈ gTb := (gTb_2 (i := 103) (by rfl) rfl)
abbrev qc_N_refute : ByteArray := prog_5_method_10_code
def qy_N_refute : MethodName := ⟨"GossipNodes$Node", "refute", "(II)V"⟩
def qw_N_refute : List Cond := .code qy_N_refute qc_N_refute 4 none :: gTb
theorem qi_N_refute : Cond.code qy_N_refute qc_N_refute 4 none ∈ gTb := (gTb_2 (i := 107) (by rfl) rfl)
abbrev qc_N_raiseScore : ByteArray := prog_5_method_11_code
def qy_N_raiseScore : MethodName := ⟨"GossipNodes$Node", "raiseScore", "(I)V"⟩
def qw_N_raiseScore : List Cond := .code qy_N_raiseScore qc_N_raiseScore 2 none :: gTb
theorem qi_N_raiseScore : Cond.code qy_N_raiseScore qc_N_raiseScore 2 none ∈ gTb := (gTb_2 (i := 111) (by rfl) rfl)
abbrev qc_E_isBelow : ByteArray := prog_2_method_6_code
def qy_E_isBelow : MethodName := ⟨"GossipNodes$Entry", "isBelow", "(II)Z"⟩
def qw_E_isBelow : List Cond := .code qy_E_isBelow qc_E_isBelow 3 (some .boolean) :: gTb
theorem qi_E_isBelow : Cond.code qy_E_isBelow qc_E_isBelow 3 (some .boolean) ∈ gTb := (gTb_2 (i := 117) (by rfl) rfl)
abbrev qc_E_becomeSuspect : ByteArray := prog_2_method_4_code
def qy_E_becomeSuspect : MethodName := ⟨"GossipNodes$Entry", "becomeSuspect", "(III)V"⟩
def qw_E_becomeSuspect : List Cond := .code qy_E_becomeSuspect qc_E_becomeSuspect 4 none :: gTb
theorem qi_E_becomeSuspect : Cond.code qy_E_becomeSuspect qc_E_becomeSuspect 4 none ∈ gTb := (gTb_2 (i := 121) (by rfl) rfl)
abbrev qc_E_isSameSuspicion : ByteArray := prog_2_method_7_code
def qy_E_isSameSuspicion : MethodName := ⟨"GossipNodes$Entry", "isSameSuspicion", "(II)Z"⟩
def qw_E_isSameSuspicion : List Cond := .code qy_E_isSameSuspicion qc_E_isSameSuspicion 3 (some .boolean) :: gTb
theorem qi_E_isSameSuspicion : Cond.code qy_E_isSameSuspicion qc_E_isSameSuspicion 3 (some .boolean) ∈ gTb := (gTb_2 (i := 126) (by rfl) rfl)
abbrev qc_N_takeAck : ByteArray := prog_5_method_13_code
def qy_N_takeAck : MethodName := ⟨"GossipNodes$Node", "takeAck", "(LGossipNodes$Message;)V"⟩
def qw_N_takeAck : List Cond := .code qy_N_takeAck qc_N_takeAck 3 none :: gTb
theorem qi_N_takeAck : Cond.code qy_N_takeAck qc_N_takeAck 3 none ∈ gTb := (gTb_2 (i := 130) (by rfl) rfl)
abbrev qc_N_isOfProbe : ByteArray := prog_5_method_12_code
def qy_N_isOfProbe : MethodName := ⟨"GossipNodes$Node", "isOfProbe", "(LGossipNodes$Message;)Z"⟩
def qw_N_isOfProbe : List Cond := .code qy_N_isOfProbe qc_N_isOfProbe 2 (some .boolean) :: gTb
theorem qi_N_isOfProbe : Cond.code qy_N_isOfProbe qc_N_isOfProbe 2 (some .boolean) ∈ gTb := (gTb_2 (i := 134) (by rfl) rfl)
abbrev qc_R_isFor : ByteArray := prog_6_method_2_code
def qy_R_isFor : MethodName := ⟨"GossipNodes$Relay", "isFor", "(LGossipNodes$Message;)Z"⟩
def qw_R_isFor : List Cond := .code qy_R_isFor qc_R_isFor 2 (some .boolean) :: gTb
theorem qi_R_isFor : Cond.code qy_R_isFor qc_R_isFor 2 (some .boolean) ∈ gTb := (gTb_2 (i := 138) (by rfl) rfl)
abbrev qc_N_endRelay : ByteArray := prog_5_method_15_code
def qy_N_endRelay : MethodName := ⟨"GossipNodes$Node", "endRelay", "(I)V"⟩
def qw_N_endRelay : List Cond := .code qy_N_endRelay qc_N_endRelay 4 none :: gTb
theorem qi_N_endRelay : Cond.code qy_N_endRelay qc_N_endRelay 4 none ∈ gTb := (gTb_2 (i := 142) (by rfl) rfl)
abbrev qc_N_takeAsk : ByteArray := prog_5_method_14_code
def qy_N_takeAsk : MethodName := ⟨"GossipNodes$Node", "takeAsk", "(LGossipNodes$Message;)V"⟩
def qw_N_takeAsk : List Cond := .code qy_N_takeAsk qc_N_takeAsk 3 none :: gTb
theorem qi_N_takeAsk : Cond.code qy_N_takeAsk qc_N_takeAsk 3 none ∈ gTb := (gTb_2 (i := 146) (by rfl) rfl)
abbrev qc_N_timer : ByteArray := prog_5_method_16_code
def qy_N_timer : MethodName := ⟨"GossipNodes$Node", "timer", "(I)V"⟩
def qw_N_timer : List Cond := .code qy_N_timer qc_N_timer 2 none :: gTb
theorem qi_N_timer : Cond.code qy_N_timer qc_N_timer 2 none ∈ gTb := (gTb_2 (i := 150) (by rfl) rfl)
abbrev qc_N_ageRelays : ByteArray := prog_5_method_17_code
def qy_N_ageRelays : MethodName := ⟨"GossipNodes$Node", "ageRelays", "()V"⟩
def qw_N_ageRelays : List Cond := .code qy_N_ageRelays qc_N_ageRelays 5 none :: gTb
theorem qi_N_ageRelays : Cond.code qy_N_ageRelays qc_N_ageRelays 5 none ∈ gTb := (gTb_2 (i := 154) (by rfl) rfl)
abbrev qc_N_buryOverdue : ByteArray := prog_5_method_18_code
def qy_N_buryOverdue : MethodName := ⟨"GossipNodes$Node", "buryOverdue", "(I)V"⟩
def qw_N_buryOverdue : List Cond := .code qy_N_buryOverdue qc_N_buryOverdue 5 none :: gTb
theorem qi_N_buryOverdue : Cond.code qy_N_buryOverdue qc_N_buryOverdue 5 none ∈ gTb := (gTb_2 (i := 158) (by rfl) rfl)
abbrev qc_J_bitCount : ByteArray := prog_9_method_49_code
def qy_J_bitCount : MethodName := ⟨"java/lang/Integer", "bitCount", "(I)I"⟩
def qw_J_bitCount : List Cond := .code qy_J_bitCount qc_J_bitCount 1 (some .int) :: gTb
theorem qi_J_bitCount : Cond.code qy_J_bitCount qc_J_bitCount 1 (some .int) ∈ gTb := (gTb_2 (i := 161) (by rfl) rfl)
abbrev qc_N_restOrProbe : ByteArray := prog_5_method_19_code
def qy_N_restOrProbe : MethodName := ⟨"GossipNodes$Node", "restOrProbe", "()V"⟩
def qw_N_restOrProbe : List Cond := .code qy_N_restOrProbe qc_N_restOrProbe 2 none :: gTb
theorem qi_N_restOrProbe : Cond.code qy_N_restOrProbe qc_N_restOrProbe 2 none ∈ gTb := (gTb_2 (i := 168) (by rfl) rfl)
abbrev qc_N_nextBehind : ByteArray := prog_5_method_20_code
def qy_N_nextBehind : MethodName := ⟨"GossipNodes$Node", "nextBehind", "(II)I"⟩
def qw_N_nextBehind : List Cond := .code qy_N_nextBehind qc_N_nextBehind 5 (some .int) :: gTb
theorem qi_N_nextBehind : Cond.code qy_N_nextBehind qc_N_nextBehind 5 (some .int) ∈ gTb := (gTb_2 (i := 172) (by rfl) rfl)
abbrev qc_N_goOnProbing : ByteArray := prog_5_method_21_code
def qy_N_goOnProbing : MethodName := ⟨"GossipNodes$Node", "goOnProbing", "(I)V"⟩
def qw_N_goOnProbing : List Cond := .code qy_N_goOnProbing qc_N_goOnProbing 2 none :: gTb
theorem qi_N_goOnProbing : Cond.code qy_N_goOnProbing qc_N_goOnProbing 2 none ∈ gTb := (gTb_2 (i := 176) (by rfl) rfl)
abbrev qc_N_askOthers : ByteArray := prog_5_method_22_code
def qy_N_askOthers : MethodName := ⟨"GossipNodes$Node", "askOthers", "()V"⟩
def qw_N_askOthers : List Cond := .code qy_N_askOthers qc_N_askOthers 3 none :: gTb
theorem qi_N_askOthers : Cond.code qy_N_askOthers qc_N_askOthers 3 none ∈ gTb := (gTb_2 (i := 180) (by rfl) rfl)
abbrev qc_N_endProbe : ByteArray := prog_5_method_23_code
def qy_N_endProbe : MethodName := ⟨"GossipNodes$Node", "endProbe", "(I)V"⟩
def qw_N_endProbe : List Cond := .code qy_N_endProbe qc_N_endProbe 3 none :: gTb
theorem qi_N_endProbe : Cond.code qy_N_endProbe qc_N_endProbe 3 none ∈ gTb := (gTb_2 (i := 184) (by rfl) rfl)
abbrev qc_N_syncWithNext : ByteArray := prog_5_method_24_code
def qy_N_syncWithNext : MethodName := ⟨"GossipNodes$Node", "syncWithNext", "()V"⟩
def qw_N_syncWithNext : List Cond := .code qy_N_syncWithNext qc_N_syncWithNext 2 none :: gTb
theorem qi_N_syncWithNext : Cond.code qy_N_syncWithNext qc_N_syncWithNext 2 none ∈ gTb := (gTb_2 (i := 189) (by rfl) rfl)
abbrev qc_G_now : ByteArray := prog_1_method_9_code
def qy_G_now : MethodName := ⟨"GossipNodes", "now", "()I"⟩
def qw_G_now : List Cond := .code qy_G_now qc_G_now 1 (some .int) :: gTb
theorem qi_G_now : Cond.code qy_G_now qc_G_now 1 (some .int) ∈ gTb := (gTb_2 (i := 193) (by rfl) rfl)
abbrev qc_G_flight : ByteArray := prog_1_method_10_code
def qy_G_flight : MethodName := ⟨"GossipNodes", "flight", "()I"⟩
def qw_G_flight : List Cond := .code qy_G_flight qc_G_flight 1 (some .int) :: gTb
theorem qi_G_flight : Cond.code qy_G_flight qc_G_flight 1 (some .int) ∈ gTb := (gTb_2 (i := 197) (by rfl) rfl)
abbrev qc_G_message : ByteArray := prog_1_method_11_code
def qy_G_message : MethodName := ⟨"GossipNodes", "message", "(II)I"⟩
def qw_G_message : List Cond := .code qy_G_message qc_G_message 3 (some .int) :: gTb
theorem qi_G_message : Cond.code qy_G_message qc_G_message 3 (some .int) ∈ gTb := (gTb_2 (i := 201) (by rfl) rfl)
abbrev qc_M_tell : ByteArray := prog_4_method_5_code
def qy_M_tell : MethodName := ⟨"GossipNodes$Message", "tell", "(I)I"⟩
def qw_M_tell : List Cond := .code qy_M_tell qc_M_tell 2 (some .int) :: gTb
theorem qi_M_tell : Cond.code qy_M_tell qc_M_tell 2 (some .int) ∈ gTb := (gTb_2 (i := 205) (by rfl) rfl)
abbrev qc_M_tellNews : ByteArray := prog_4_method_6_code
def qy_M_tellNews : MethodName := ⟨"GossipNodes$Message", "tellNews", "(I)I"⟩
def qw_M_tellNews : List Cond := .code qy_M_tellNews qc_M_tellNews 2 (some .int) :: gTb
theorem qi_M_tellNews : Cond.code qy_M_tellNews qc_M_tellNews 2 (some .int) ∈ gTb := (gTb_2 (i := 209) (by rfl) rfl)
abbrev qc_G_view : ByteArray := prog_1_method_12_code
def qy_G_view : MethodName := ⟨"GossipNodes", "view", "(III)I"⟩
def qw_G_view : List Cond := .code qy_G_view qc_G_view 4 (some .int) :: gTb
theorem qi_G_view : Cond.code qy_G_view qc_G_view 4 (some .int) ∈ gTb := (gTb_2 (i := 213) (by rfl) rfl)
abbrev qc_E_tell : ByteArray := prog_2_method_8_code
def qy_E_tell : MethodName := ⟨"GossipNodes$Entry", "tell", "(I)I"⟩
def qw_E_tell : List Cond := .code qy_E_tell qc_E_tell 2 (some .int) :: gTb
theorem qi_E_tell : Cond.code qy_E_tell qc_E_tell 2 (some .int) ∈ gTb := (gTb_2 (i := 217) (by rfl) rfl)
abbrev qc_G_node : ByteArray := prog_1_method_13_code
def qy_G_node : MethodName := ⟨"GossipNodes", "node", "(II)I"⟩
def qw_G_node : List Cond := .code qy_G_node qc_G_node 3 (some .int) :: gTb
theorem qi_G_node : Cond.code qy_G_node qc_G_node 3 (some .int) ∈ gTb := (gTb_2 (i := 222) (by rfl) rfl)
abbrev qc_N_tell : ByteArray := prog_5_method_25_code
def qy_N_tell : MethodName := ⟨"GossipNodes$Node", "tell", "(I)I"⟩
def qw_N_tell : List Cond := .code qy_N_tell qc_N_tell 2 (some .int) :: gTb
theorem qi_N_tell : Cond.code qy_N_tell qc_N_tell 2 (some .int) ∈ gTb := (gTb_2 (i := 226) (by rfl) rfl)
abbrev qc_N_countQueued : ByteArray := prog_5_method_26_code
def qy_N_countQueued : MethodName := ⟨"GossipNodes$Node", "countQueued", "()I"⟩
def qw_N_countQueued : List Cond := .code qy_N_countQueued qc_N_countQueued 3 (some .int) :: gTb
theorem qi_N_countQueued : Cond.code qy_N_countQueued qc_N_countQueued 3 (some .int) ∈ gTb := (gTb_2 (i := 230) (by rfl) rfl)
abbrev qc_G_queued : ByteArray := prog_1_method_14_code
def qy_G_queued : MethodName := ⟨"GossipNodes", "queued", "(II)I"⟩
def qw_G_queued : List Cond := .code qy_G_queued qc_G_queued 3 (some .int) :: gTb
theorem qi_G_queued : Cond.code qy_G_queued qc_G_queued 3 (some .int) ∈ gTb := (gTb_2 (i := 234) (by rfl) rfl)
abbrev qc_G_agreed : ByteArray := prog_1_method_15_code
def qy_G_agreed : MethodName := ⟨"GossipNodes", "agreed", "()Z"⟩
def qw_G_agreed : List Cond := .code qy_G_agreed qc_G_agreed 2 (some .boolean) :: gTb
theorem qi_G_agreed : Cond.code qy_G_agreed qc_G_agreed 2 (some .boolean) ∈ gTb := (gTb_2 (i := 238) (by rfl) rfl)
abbrev qc_G_seesJustTheRunning : ByteArray := prog_1_method_20_code
def qy_G_seesJustTheRunning : MethodName := ⟨"GossipNodes", "seesJustTheRunning", "(LGossipNodes$Node;)Z"⟩
def qw_G_seesJustTheRunning : List Cond := .code qy_G_seesJustTheRunning qc_G_seesJustTheRunning 4 (some .boolean) :: gTb
theorem qi_G_seesJustTheRunning : Cond.code qy_G_seesJustTheRunning qc_G_seesJustTheRunning 4 (some .boolean) ∈ gTb := (gTb_3 (i := 2) (by rfl) rfl)
abbrev qc_L_cell : ByteArray := method_2_code
def qy_L_cell : MethodName := ⟨"GossipNodesLaw", "cell", "([II)I"⟩
def qw_L_cell : List Cond := .code qy_L_cell qc_L_cell 2 (some .int) :: gTb
theorem qi_L_cell : Cond.code qy_L_cell qc_L_cell 2 (some .int) ∈ gTb := (gTb_3 (i := 5) (by rfl) rfl)
abbrev qc_Z_init : ByteArray := prog_8_method_1_code
def qy_Z_init : MethodName := ⟨"GossipNodesModel", "<init>", "(I)V"⟩
def qw_Z_init : List Cond := .code qy_Z_init qc_Z_init 2 none :: gTb
theorem qi_Z_init : Cond.code qy_Z_init qc_Z_init 2 none ∈ gTb := (gTb_3 (i := 10) (by rfl) rfl)
abbrev qc_Z_start : ByteArray := prog_8_method_11_code
def qy_Z_start : MethodName := ⟨"GossipNodesModel", "start", "(II)Z"⟩
def qw_Z_start : List Cond := .code qy_Z_start qc_Z_start 4 (some .boolean) :: gTb
theorem qi_Z_start : Cond.code qy_Z_start qc_Z_start 4 (some .boolean) ∈ gTb := (gTb_3 (i := 101) (by rfl) rfl)
abbrev qc_Z_isNode : ByteArray := prog_8_method_2_code
def qy_Z_isNode : MethodName := ⟨"GossipNodesModel", "isNode", "(I)Z"⟩
def qw_Z_isNode : List Cond := .code qy_Z_isNode qc_Z_isNode 2 (some .boolean) :: gTb
theorem qi_Z_isNode : Cond.code qy_Z_isNode qc_Z_isNode 2 (some .boolean) ∈ gTb := (gTb_3 (i := 105) (by rfl) rfl)
abbrev qc_Z_enter : ByteArray := prog_8_method_10_code
def qy_Z_enter : MethodName := ⟨"GossipNodesModel", "enter", "(IIIII)V"⟩
def qw_Z_enter : List Cond := .code qy_Z_enter qc_Z_enter 7 none :: gTb
theorem qi_Z_enter : Cond.code qy_Z_enter qc_Z_enter 7 none ∈ gTb := (gTb_3 (i := 109) (by rfl) rfl)
abbrev qc_Z_announce : ByteArray := prog_8_method_9_code
def qy_Z_announce : MethodName := ⟨"GossipNodesModel", "announce", "(IIII)V"⟩
def qw_Z_announce : List Cond := .code qy_Z_announce qc_Z_announce 5 none :: gTb
theorem qi_Z_announce : Cond.code qy_Z_announce qc_Z_announce 5 none ∈ gTb := (gTb_3 (i := 113) (by rfl) rfl)
abbrev qc_Z_send : ByteArray := prog_8_method_8_code
def qy_Z_send : MethodName := ⟨"GossipNodesModel", "send", "(IIIIII)V"⟩
def qw_Z_send : List Cond := .code qy_Z_send qc_Z_send 8 none :: gTb
theorem qi_Z_send : Cond.code qy_Z_send qc_Z_send 8 none ∈ gTb := (gTb_3 (i := 117) (by rfl) rfl)
abbrev qc_Z_addQueued : ByteArray := prog_8_method_6_code
def qy_Z_addQueued : MethodName := ⟨"GossipNodesModel", "addQueued", "(I)V"⟩
def qw_Z_addQueued : List Cond := .code qy_Z_addQueued qc_Z_addQueued 4 none :: gTb
theorem qi_Z_addQueued : Cond.code qy_Z_addQueued qc_Z_addQueued 4 none ∈ gTb := (gTb_3 (i := 121) (by rfl) rfl)
abbrev qc_Z_mostQueued : ByteArray := prog_8_method_4_code
def qy_Z_mostQueued : MethodName := ⟨"GossipNodesModel", "mostQueued", "(I)I"⟩
def qw_Z_mostQueued : List Cond := .code qy_Z_mostQueued qc_Z_mostQueued 4 (some .int) :: gTb
theorem qi_Z_mostQueued : Cond.code qy_Z_mostQueued qc_Z_mostQueued 4 (some .int) ∈ gTb := (gTb_3 (i := 125) (by rfl) rfl)
abbrev qc_Z_addNews : ByteArray := prog_8_method_5_code
def qy_Z_addNews : MethodName := ⟨"GossipNodesModel", "addNews", "(III)V"⟩
def qw_Z_addNews : List Cond := .code qy_Z_addNews qc_Z_addNews 5 none :: gTb
theorem qi_Z_addNews : Cond.code qy_Z_addNews qc_Z_addNews 5 none ∈ gTb := (gTb_3 (i := 129) (by rfl) rfl)
abbrev qc_Z_addTable : ByteArray := prog_8_method_7_code
def qy_Z_addTable : MethodName := ⟨"GossipNodesModel", "addTable", "(I)V"⟩
def qw_Z_addTable : List Cond := .code qy_Z_addTable qc_Z_addTable 3 none :: gTb
theorem qi_Z_addTable : Cond.code qy_Z_addTable qc_Z_addTable 3 none ∈ gTb := (gTb_3 (i := 133) (by rfl) rfl)
abbrev qc_Z_crash : ByteArray := prog_8_method_12_code
def qy_Z_crash : MethodName := ⟨"GossipNodesModel", "crash", "(I)Z"⟩
def qw_Z_crash : List Cond := .code qy_Z_crash qc_Z_crash 2 (some .boolean) :: gTb
theorem qi_Z_crash : Cond.code qy_Z_crash qc_Z_crash 2 (some .boolean) ∈ gTb := (gTb_3 (i := 137) (by rfl) rfl)
abbrev qc_Z_isRunning : ByteArray := prog_8_method_3_code
def qy_Z_isRunning : MethodName := ⟨"GossipNodesModel", "isRunning", "(I)Z"⟩
def qw_Z_isRunning : List Cond := .code qy_Z_isRunning qc_Z_isRunning 2 (some .boolean) :: gTb
theorem qi_Z_isRunning : Cond.code qy_Z_isRunning qc_Z_isRunning 2 (some .boolean) ∈ gTb := (gTb_3 (i := 141) (by rfl) rfl)
abbrev qc_Z_leave : ByteArray := prog_8_method_13_code
def qy_Z_leave : MethodName := ⟨"GossipNodesModel", "leave", "(I)Z"⟩
def qw_Z_leave : List Cond := .code qy_Z_leave qc_Z_leave 3 (some .boolean) :: gTb
theorem qi_Z_leave : Cond.code qy_Z_leave qc_Z_leave 3 (some .boolean) ∈ gTb := (gTb_3 (i := 145) (by rfl) rfl)
abbrev qc_Z_cut : ByteArray := prog_8_method_14_code
def qy_Z_cut : MethodName := ⟨"GossipNodesModel", "cut", "(IIZ)Z"⟩
def qw_Z_cut : List Cond := .code qy_Z_cut qc_Z_cut 4 (some .boolean) :: gTb
theorem qi_Z_cut : Cond.code qy_Z_cut qc_Z_cut 4 (some .boolean) ∈ gTb := (gTb_3 (i := 149) (by rfl) rfl)
abbrev qc_Z_drop : ByteArray := prog_8_method_16_code
def qy_Z_drop : MethodName := ⟨"GossipNodesModel", "drop", "(I)Z"⟩
def qw_Z_drop : List Cond := .code qy_Z_drop qc_Z_drop 2 (some .boolean) :: gTb
theorem qi_Z_drop : Cond.code qy_Z_drop qc_Z_drop 2 (some .boolean) ∈ gTb := (gTb_3 (i := 153) (by rfl) rfl)
abbrev qc_Z_remove : ByteArray := prog_8_method_15_code
def qy_Z_remove : MethodName := ⟨"GossipNodesModel", "remove", "(I)V"⟩
def qw_Z_remove : List Cond := .code qy_Z_remove qc_Z_remove 3 none :: gTb
theorem qi_Z_remove : Cond.code qy_Z_remove qc_Z_remove 3 none ∈ gTb := (gTb_3 (i := 157) (by rfl) rfl)
abbrev qc_Z_swap : ByteArray := prog_8_method_17_code
def qy_Z_swap : MethodName := ⟨"GossipNodesModel", "swap", "(I)Z"⟩
def qw_Z_swap : List Cond := .code qy_Z_swap qc_Z_swap 4 (some .boolean) :: gTb
theorem qi_Z_swap : Cond.code qy_Z_swap qc_Z_swap 4 (some .boolean) ∈ gTb := (gTb_3 (i := 161) (by rfl) rfl)
abbrev qc_Z_ticks : ByteArray := prog_8_method_33_code
def qy_Z_ticks : MethodName := ⟨"GossipNodesModel", "ticks", "(I)I"⟩
def qw_Z_ticks : List Cond := .code qy_Z_ticks qc_Z_ticks 6 (some .int) :: gTb
theorem qi_Z_ticks : Cond.code qy_Z_ticks qc_Z_ticks 6 (some .int) ∈ gTb := (gTb_3 (i := 165) (by rfl) rfl)
abbrev qc_Z_arrive : ByteArray := prog_8_method_23_code
def qy_Z_arrive : MethodName := ⟨"GossipNodesModel", "arrive", "()Z"⟩
def qw_Z_arrive : List Cond := .code qy_Z_arrive qc_Z_arrive 9 (some .boolean) :: gTb
theorem qi_Z_arrive : Cond.code qy_Z_arrive qc_Z_arrive 9 (some .boolean) ∈ gTb := (gTb_3 (i := 169) (by rfl) rfl)
abbrev qc_Z_learn : ByteArray := prog_8_method_18_code
def qy_Z_learn : MethodName := ⟨"GossipNodesModel", "learn", "(IIIII)V"⟩
def qw_Z_learn : List Cond := .code qy_Z_learn qc_Z_learn 9 none :: gTb
theorem qi_Z_learn : Cond.code qy_Z_learn qc_Z_learn 9 none ∈ gTb := (gTb_3 (i := 173) (by rfl) rfl)
abbrev qc_Z_acknowledged : ByteArray := prog_8_method_21_code
def qy_Z_acknowledged : MethodName := ⟨"GossipNodesModel", "acknowledged", "(IIII)V"⟩
def qw_Z_acknowledged : List Cond := .code qy_Z_acknowledged qc_Z_acknowledged 6 none :: gTb
theorem qi_Z_acknowledged : Cond.code qy_Z_acknowledged qc_Z_acknowledged 6 none ∈ gTb := (gTb_3 (i := 177) (by rfl) rfl)
abbrev qc_Z_relayOf : ByteArray := prog_8_method_20_code
def qy_Z_relayOf : MethodName := ⟨"GossipNodesModel", "relayOf", "(IIII)I"⟩
def qw_Z_relayOf : List Cond := .code qy_Z_relayOf qc_Z_relayOf 8 (some .int) :: gTb
theorem qi_Z_relayOf : Cond.code qy_Z_relayOf qc_Z_relayOf 8 (some .int) ∈ gTb := (gTb_3 (i := 181) (by rfl) rfl)
abbrev qc_Z_removeRelay : ByteArray := prog_8_method_19_code
def qy_Z_removeRelay : MethodName := ⟨"GossipNodesModel", "removeRelay", "(II)V"⟩
def qw_Z_removeRelay : List Cond := .code qy_Z_removeRelay qc_Z_removeRelay 4 none :: gTb
theorem qi_Z_removeRelay : Cond.code qy_Z_removeRelay qc_Z_removeRelay 4 none ∈ gTb := (gTb_3 (i := 185) (by rfl) rfl)
abbrev qc_Z_help : ByteArray := prog_8_method_22_code
def qy_Z_help : MethodName := ⟨"GossipNodesModel", "help", "(IIII)V"⟩
def qw_Z_help : List Cond := .code qy_Z_help qc_Z_help 6 none :: gTb
theorem qi_Z_help : Cond.code qy_Z_help qc_Z_help 6 none ∈ gTb := (gTb_3 (i := 189) (by rfl) rfl)
abbrev qc_Z_time : ByteArray := prog_8_method_32_code
def qy_Z_time : MethodName := ⟨"GossipNodesModel", "time", "(I)V"⟩
def qw_Z_time : List Cond := .code qy_Z_time qc_Z_time 3 none :: gTb
theorem qi_Z_time : Cond.code qy_Z_time qc_Z_time 3 none ∈ gTb := (gTb_3 (i := 193) (by rfl) rfl)
abbrev qc_Z_ageRelays : ByteArray := prog_8_method_24_code
def qy_Z_ageRelays : MethodName := ⟨"GossipNodesModel", "ageRelays", "(I)V"⟩
def qw_Z_ageRelays : List Cond := .code qy_Z_ageRelays qc_Z_ageRelays 5 none :: gTb
theorem qi_Z_ageRelays : Cond.code qy_Z_ageRelays qc_Z_ageRelays 5 none ∈ gTb := (gTb_3 (i := 197) (by rfl) rfl)
abbrev qc_Z_expire : ByteArray := prog_8_method_26_code
def qy_Z_expire : MethodName := ⟨"GossipNodesModel", "expire", "(I)V"⟩
def qw_Z_expire : List Cond := .code qy_Z_expire qc_Z_expire 5 none :: gTb
theorem qi_Z_expire : Cond.code qy_Z_expire qc_Z_expire 5 none ∈ gTb := (gTb_3 (i := 201) (by rfl) rfl)
abbrev qc_Z_count : ByteArray := prog_8_method_25_code
def qy_Z_count : MethodName := ⟨"GossipNodesModel", "count", "(I)I"⟩
def qw_Z_count : List Cond := .code qy_Z_count qc_Z_count 3 (some .int) :: gTb
theorem qi_Z_count : Cond.code qy_Z_count qc_Z_count 3 (some .int) ∈ gTb := (gTb_3 (i := 204) (by rfl) rfl)
abbrev qc_Z_probe : ByteArray := prog_8_method_31_code
def qy_Z_probe : MethodName := ⟨"GossipNodesModel", "probe", "(I)V"⟩
def qw_Z_probe : List Cond := .code qy_Z_probe qc_Z_probe 2 none :: gTb
theorem qi_Z_probe : Cond.code qy_Z_probe qc_Z_probe 2 none ∈ gTb := (gTb_3 (i := 208) (by rfl) rfl)
abbrev qc_Z_begin : ByteArray := prog_8_method_28_code
def qy_Z_begin : MethodName := ⟨"GossipNodesModel", "begin", "(I)V"⟩
def qw_Z_begin : List Cond := .code qy_Z_begin qc_Z_begin 3 none :: gTb
theorem qi_Z_begin : Cond.code qy_Z_begin qc_Z_begin 3 none ∈ gTb := (gTb_3 (i := 212) (by rfl) rfl)
abbrev qc_Z_nextOf : ByteArray := prog_8_method_27_code
def qy_Z_nextOf : MethodName := ⟨"GossipNodesModel", "nextOf", "(IIIZ)I"⟩
def qw_Z_nextOf : List Cond := .code qy_Z_nextOf qc_Z_nextOf 8 (some .int) :: gTb
theorem qi_Z_nextOf : Cond.code qy_Z_nextOf qc_Z_nextOf 8 (some .int) ∈ gTb := (gTb_3 (i := 216) (by rfl) rfl)
abbrev qc_Z_askOthers : ByteArray := prog_8_method_29_code
def qy_Z_askOthers : MethodName := ⟨"GossipNodesModel", "askOthers", "(I)V"⟩
def qw_Z_askOthers : List Cond := .code qy_Z_askOthers qc_Z_askOthers 4 none :: gTb
theorem qi_Z_askOthers : Cond.code qy_Z_askOthers qc_Z_askOthers 4 none ∈ gTb := (gTb_3 (i := 220) (by rfl) rfl)
abbrev qc_Z_end : ByteArray := prog_8_method_30_code
def qy_Z_end : MethodName := ⟨"GossipNodesModel", "end", "(I)V"⟩
def qw_Z_end : List Cond := .code qy_Z_end qc_Z_end 5 none :: gTb
theorem qi_Z_end : Cond.code qy_Z_end qc_Z_end 5 none ∈ gTb := (gTb_3 (i := 224) (by rfl) rfl)
abbrev qc_Z_now : ByteArray := prog_8_method_34_code
def qy_Z_now : MethodName := ⟨"GossipNodesModel", "now", "()I"⟩
def qw_Z_now : List Cond := .code qy_Z_now qc_Z_now 1 (some .int) :: gTb
theorem qi_Z_now : Cond.code qy_Z_now qc_Z_now 1 (some .int) ∈ gTb := (gTb_3 (i := 228) (by rfl) rfl)
abbrev qc_Z_flight : ByteArray := prog_8_method_35_code
def qy_Z_flight : MethodName := ⟨"GossipNodesModel", "flight", "()I"⟩
def qw_Z_flight : List Cond := .code qy_Z_flight qc_Z_flight 1 (some .int) :: gTb
theorem qi_Z_flight : Cond.code qy_Z_flight qc_Z_flight 1 (some .int) ∈ gTb := (gTb_3 (i := 232) (by rfl) rfl)
abbrev qc_Z_message : ByteArray := prog_8_method_36_code
def qy_Z_message : MethodName := ⟨"GossipNodesModel", "message", "(II)I"⟩
def qw_Z_message : List Cond := .code qy_Z_message qc_Z_message 3 (some .int) :: gTb
theorem qi_Z_message : Cond.code qy_Z_message qc_Z_message 3 (some .int) ∈ gTb := (gTb_3 (i := 236) (by rfl) rfl)
abbrev qc_Z_view : ByteArray := prog_8_method_37_code
def qy_Z_view : MethodName := ⟨"GossipNodesModel", "view", "(III)I"⟩
def qw_Z_view : List Cond := .code qy_Z_view qc_Z_view 5 (some .int) :: gTb
theorem qi_Z_view : Cond.code qy_Z_view qc_Z_view 5 (some .int) ∈ gTb := (gTb_4 (i := 0) (by rfl) rfl)
abbrev qc_Z_node : ByteArray := prog_8_method_39_code
def qy_Z_node : MethodName := ⟨"GossipNodesModel", "node", "(II)I"⟩
def qw_Z_node : List Cond := .code qy_Z_node qc_Z_node 3 (some .int) :: gTb
theorem qi_Z_node : Cond.code qy_Z_node qc_Z_node 3 (some .int) ∈ gTb := (gTb_4 (i := 4) (by rfl) rfl)
abbrev qc_Z_newsOf : ByteArray := prog_8_method_38_code
def qy_Z_newsOf : MethodName := ⟨"GossipNodesModel", "newsOf", "(I)I"⟩
def qw_Z_newsOf : List Cond := .code qy_Z_newsOf qc_Z_newsOf 4 (some .int) :: gTb
theorem qi_Z_newsOf : Cond.code qy_Z_newsOf qc_Z_newsOf 4 (some .int) ∈ gTb := (gTb_4 (i := 8) (by rfl) rfl)
abbrev qc_Z_queued : ByteArray := prog_8_method_40_code
def qy_Z_queued : MethodName := ⟨"GossipNodesModel", "queued", "(II)I"⟩
def qw_Z_queued : List Cond := .code qy_Z_queued qc_Z_queued 3 (some .int) :: gTb
theorem qi_Z_queued : Cond.code qy_Z_queued qc_Z_queued 3 (some .int) ∈ gTb := (gTb_4 (i := 12) (by rfl) rfl)
abbrev qc_Z_agreed : ByteArray := prog_8_method_41_code
def qy_Z_agreed : MethodName := ⟨"GossipNodesModel", "agreed", "()Z"⟩
def qw_Z_agreed : List Cond := .code qy_Z_agreed qc_Z_agreed 5 (some .boolean) :: gTb
theorem qi_Z_agreed : Cond.code qy_Z_agreed qc_Z_agreed 5 (some .boolean) ∈ gTb := (gTb_4 (i := 16) (by rfl) rfl)
end
section
/-! the cells by name: (kind, i, j), in the order in which they are made -/
abbrev gK : Type := Nat × Nat × Nat
abbrev gV : Type := Int32 ⊕ Option gK
abbrev gS : Type := (gK → Nat → Int32) × (gK → Nat → Option gK)
/-- how many nodes, the first address, the array classes, the tables -/
abbrev gG : Type := Nat × Nat × (Nat → ClassId) × va_G
def gNodeKs (n i : Nat) : List gK := [(7, i, 0), (10, i, 0), (8, i, 0)] ++ (List.range n).map (fun j => (9, i, j)) ++ (List.range 4).map (fun r => (11, i, r))
def gOrd (n : Nat) : List gK := [(0, 0, 0), (3, 0, 0), (4, 0, 0), (4, 1, 0), (5, 120, 0), (6, 120, 0)] ++ (List.range 60).flatMap (fun i => [(5, i, 0), (6, i, 0), (5, 60 + i, 0), (6, 60 + i, 0)]) ++ [(2, 0, 0), (1, 0, 0)] ++ (List.range n).flatMap (gNodeKs n) ++ [(20, 0, 0)] ++ (List.range 25).map (fun k => (21 + k, 0, 0))
/-- what a cell is: an object of a class (its number in gCl), or an array (the number of its type, its length) -/
def gSh (n : Nat) (k : gK) : Nat ⊕ (Nat × Nat) := match k.1 with
  | 0 => .inl 5
  | 1 => .inr (2, n)
  | 2 => .inr (0, n)
  | 3 => .inl 1
  | 4 => .inr (3, 60)
  | 5 => .inl 2
  | 6 => .inr (0, 24)
  | 7 => .inl 3
  | 8 => .inr (4, n)
  | 9 => .inl 0
  | 10 => .inr (5, 4)
  | 11 => .inl 4
  | 20 => .inl 6
  | 21 => .inr (0, 1920)
  | 22 => .inr (0, 32)
  | 23 => .inr (1, 64)
  | 24 => .inr (1, 8)
  | 25 => .inr (0, 8)
  | 26 => .inr (0, 8)
  | 27 => .inr (0, 64)
  | 28 => .inr (0, 64)
  | 29 => .inr (0, 64)
  | 30 => .inr (0, 64)
  | 31 => .inr (0, 64)
  | 32 => .inr (0, 64)
  | 33 => .inr (0, 64)
  | 34 => .inr (0, 8)
  | 35 => .inr (0, 128)
  | 36 => .inr (1, 8)
  | 37 => .inr (0, 8)
  | 38 => .inr (0, 8)
  | 39 => .inr (1, 8)
  | _ => .inr (0, 8)
def gNt : Nat := 6
def gTy (t : Nat) : FieldType := match t with
  | 0 => .int
  | 1 => .boolean
  | 2 => .object "GossipNodes$Node"
  | 3 => .object "GossipNodes$Message"
  | 4 => .object "GossipNodes$Entry"
  | _ => .object "GossipNodes$Relay"
theorem gTy_0 : 0 < gNt ∧ 1 < gNt ∧ 2 < gNt := by decide
def gAd (G : gG) (k : gK) : Nat := G.2.1 + (gOrd G.1).idxOf k
end
section
/-! A small machine over named cells: the rows of the kit, once for all methods. -/
/-- a value of the small machine, as the machine has it -/
def gRv (G : gG) (r : Option gK) : Value := va_rf (r.map (gAd G))
def gc (G : gG) (v : gV) : Value := match v with
  | .inl x => .int x
  | .inr r => gRv G r
def gFs (G : gG) (S : gS) (k : gK) (ci : Nat) : List Value := (List.range (gNf ci)).map (fun f => if gRf ci f then gRv G (S.2 k f) else .int (S.1 k f))
def gAr (G : gG) (S : gS) (k : gK) (t : Nat) : (Nat → Int32) ⊕ (Nat → Int64) ⊕ (Nat → UInt32) ⊕ (Nat → UInt64) ⊕ (Nat → Option Nat) :=
  if t < 2 then .inl (S.1 k) else .inr (.inr (.inr (.inr (fun j => (S.2 k j).map (gAd G)))))
def gE (G : gG) (S : gS) (k : gK) : va_E := match gSh G.1 k with
  | .inl ci => .inr (ci, gFs G S k ci)
  | .inr q => .inl (G.2.2.1 q.1, q.2, gAr G S k q.1)
def gKs (G : gG) (t : Nat) : List gK := (gOrd G.1).take t
def gW (G : gG) (t : Nat) (S : gS) : va_W := (gKs G t).map (fun k => (gAd G k, gE G S k))
def gA (G : gG) : Nat → Prop := fun q => G.2.1 ≤ q
def gTys (G : gG) : List (ClassId × FieldType) := (List.range gNt).map (fun t => (G.2.2.1 t, gTy t))
def gP (G : gG) (t : Nat) (S : gS) (H : Heap) : Prop := va_P G.2.2.2 gCl (gW G t S) H ∧ H.size = G.2.1 + t
def gKn (G : gG) (U : State) : Prop := va_K G.2.2.2 gCl (gTys G) U ∧ (gOrd G.1).Nodup
/-- locals: what is known of them; 'none' is anything -/
def gL (G : gG) (ls : Array Slot) (lv : List (Option gV)) : Prop := ls.size = lv.length ∧ lv_wf ls ∧ ∀ (i : Nat) (v : gV), lv[i]? = some (some v) → ls[i]? = some (.val (gc G v))
/-- one field, one element -/
def gI (S : gS) (k : gK) (f : Nat) (v : Int32) : gS := (fun k' f' => if k' = k ∧ f' = f then v else S.1 k' f', S.2)
def gX (S : gS) (k : gK) (f : Nat) (r : Option gK) : gS := (S.1, fun k' f' => if k' = k ∧ f' = f then r else S.2 k' f')
abbrev gEnv : Type := Program × Launch × Env × Room × State × MethodId × Array Value × List Frame × Method × Code
def gC (G : gG) (E : gEnv) (cc : ByteArray) (nL : Nat) (own : String) (d : Nat) : Prop :=
  E.1.tables.exec = Jvm.exec ∧ E.2.2.2.2.2.2.2.2.2.code = cc ∧ E.2.2.2.2.2.2.2.2.2.maxLocals = nL ∧ E.2.2.2.2.1.vm.findClass own = some E.2.2.2.2.2.1.cls ∧
  (∀ w ∈ gTb, w.before E.2.2.2.2.2.2.1 E.2.2.2.2.1 = true) ∧ gKn G E.2.2.2.2.1 ∧ d ≤ E.2.2.2.1.frames ∧ 40 * d ≤ E.2.2.2.1.locals ∧ E.2.2.2.2.2.2.2.2.1.locks = false
def gZ (G : gG) (E : gEnv) (cells slots : Nat) (Q : State → Prop) (t pc : Nat) (lv : List (Option gV)) (st : List gV) (S : gS) : Prop :=
  ∀ (ls : Array Slot) (H : Heap) (locs : List Loc), gL G ls lv → gP G t S H → va_S (gA G) E.2.2.2.2.1.heap H locs →
    W E.1 E.2.1 E.2.2.1 E.2.2.2.1 E.2.2.2.2.1 E.2.2.2.2.2.1 E.2.2.2.2.2.2.1 E.2.2.2.2.2.2.2.1 E.2.2.2.2.2.2.2.2.1 E.2.2.2.2.2.2.2.2.2 H locs cells slots Q (F0 E.2.2.2.2.2.1 pc ls (st.map (gc G)))
/-- how a method ends -/
def gQ (G : gG) (t : Nat) (Rt : Option gV → gS → Prop) : Array Value → State → Outcome → State → Prop := fun _ st oc u =>
  (∃ (v : Option gV) (S : gS), oc = .returned (v.map (gc G)) ∧ Rt v S ∧ gP G t S u.heap) ∧ va_F (gA G) st u
abbrev gEnd (G : gG) (E : gEnv) (mc ms t : Nat) (Rt : Option gV → gS → Prop) : State → Prop := MQ E.2.2.2.2.2.2.2.1 (gQ G t Rt) E.2.2.2.2.2.2.1 E.2.2.2.2.1 mc ms (gA G)
def gPc (G : gG) (t : Nat) (av : List gV) (S : gS) : Array Value → State → Prop := fun a U => a = (av.map (gc G)).toArray ∧ gP G t S U.heap ∧ gKn G U
/-- a contract: from S, with these arguments, the method answers and leaves as Rt says -/
def gM (G : gG) (l : Launch) (y : MethodName) (ws : List Cond) (d mc ms t t' : Nat) (av : List gV) (S : gS) (Rt : Option gV → gS → Prop) : Prop :=
  Met l y ws { frames := d, cells := mc, slots := ms, locals := 40 * d } (gPc G t av S) (gQ G t' Rt) mc ms (gA G)
theorem gc_cat (G : gG) (v : gV) : (gc G v).category = 1 := by
  rcases v with x | r
  · rfl
  · cases r <;> rfl
theorem gRv_some (G : gG) (k : gK) : gRv G (some k) = .ref (gAd G k) := rfl
theorem gKn.moved {G : gG} {u U : State} (hvm : u.vm.Alike U.vm) (h : gKn G u) : gKn G U := ⟨va_K.moved hvm h.1, h.2⟩
/-! addresses -/
theorem gKs_mem {G : gG} {t : Nat} {k : gK} (h : k ∈ gKs G t) : k ∈ gOrd G.1 := List.mem_of_mem_take h
theorem gAd_inj {G : gG} {a b : gK} (ha : a ∈ gOrd G.1) (hb : b ∈ gOrd G.1) (h : gAd G a = gAd G b) : a = b := by
  have h1 : (gOrd G.1).idxOf a = (gOrd G.1).idxOf b := by unfold gAd at h; omega
  have ea : (gOrd G.1)[(gOrd G.1).idxOf a]'(List.idxOf_lt_length_of_mem ha) = a := List.getElem_idxOf _
  have eb : (gOrd G.1)[(gOrd G.1).idxOf b]'(List.idxOf_lt_length_of_mem hb) = b := List.getElem_idxOf _
  rw [← ea, ← eb]
  congr 1
theorem gW_get {G : gG} {t : Nat} {S : gS} {k : gK} (h : k ∈ gKs G t) : ∃ i : Nat, (gKs G t)[i]? = some k ∧ (gW G t S)[i]? = some (gAd G k, gE G S k) := by
  obtain ⟨i, hi⟩ := List.getElem?_of_mem h
  exact ⟨i, hi, by rw [gW, List.getElem?_map, hi]; rfl⟩
theorem gW_set {G : gG} {t i : Nat} {S S' : gS} {k : gK} (hn : (gOrd G.1).Nodup) (hi : (gKs G t)[i]? = some k) (ho : ∀ k', k' ≠ k → gE G S' k' = gE G S k') : (gW G t S).set i (gAd G k, gE G S' k) = gW G t S' := by
  have hnd : (gKs G t).Nodup := List.Nodup.sublist (List.take_sublist _ _) hn
  have hl := (List.getElem?_eq_some_iff.mp hi).1
  apply List.ext_getElem?
  intro j
  by_cases hj : j = i
  · subst hj
    rw [List.getElem?_set_self (by rw [gW, List.length_map]; exact hl), gW, List.getElem?_map, hi]; rfl
  · rw [List.getElem?_set_ne (Ne.symm hj)]
    simp only [gW, List.getElem?_map]
    cases hb : (gKs G t)[j]? with
    | none => rfl
    | some b =>
      have hbk : b ≠ k := by
        intro e
        subst e
        exact hj ((List.getElem?_inj (List.getElem?_eq_some_iff.mp hb).1 hnd).mp (hb.trans hi.symm))
      simp only [Option.map_some]
      rw [ho b hbk]
theorem gD {G : gG} {t : Nat} {S : gS} (hn : (gOrd G.1).Nodup) : va_D (gA G) (gW G t S) := by
  have hnd : (gKs G t).Nodup := List.Nodup.sublist (List.take_sublist _ _) hn
  refine ⟨fun i j x y hi hj hxy => ?_, fun k q hk => ?_⟩
  · simp only [gW, List.getElem?_map] at hi hj
    cases ha : (gKs G t)[i]? with
    | none => rw [ha] at hi; cases hi
    | some a =>
      cases hb : (gKs G t)[j]? with
      | none => rw [hb] at hj; cases hj
      | some b =>
        rw [ha] at hi; rw [hb] at hj
        cases hi; cases hj
        have e := gAd_inj (gKs_mem (List.mem_of_getElem? ha)) (gKs_mem (List.mem_of_getElem? hb)) hxy
        subst e
        exact (List.getElem?_inj (List.getElem?_eq_some_iff.mp ha).1 hnd).mp (ha.trans hb.symm)
  · simp only [gW, List.getElem?_map] at hk
    cases ha : (gKs G t)[k]? with
    | none => rw [ha] at hk; cases hk
    | some a =>
      rw [ha] at hk
      cases hk
      show G.2.1 ≤ gAd G a
      unfold gAd
      omega
theorem gTys_at {G : gG} {t : Nat} (h : t < gNt) : (gTys G)[t]? = some (G.2.2.1 t, gTy t) := by
  rw [gTys, List.getElem?_map, List.getElem?_range h]; rfl
theorem gFs_at {G : gG} {S : gS} {k : gK} {ci f : Nat} (h : f < gNf ci) : (gFs G S k ci)[f]? = some (if gRf ci f then gRv G (S.2 k f) else .int (S.1 k f)) := by
  rw [gFs, List.getElem?_map, List.getElem?_range h]; rfl
theorem gFs_len {G : gG} {S : gS} {k : gK} {ci : Nat} : (gFs G S k ci).length = gNf ci := by simp [gFs]
theorem gE_obj {G : gG} {S : gS} {k : gK} {ci : Nat} (h : gSh G.1 k = .inl ci) : gE G S k = .inr (ci, gFs G S k ci) := by unfold gE; rw [h]
theorem gE_arr {G : gG} {S : gS} {k : gK} {t n : Nat} (h : gSh G.1 k = .inr (t, n)) : gE G S k = .inl (G.2.2.1 t, n, gAr G S k t) := by unfold gE; rw [h]
theorem gE_I {G : gG} {S : gS} {k k' : gK} {f : Nat} {v : Int32} (h : k' ≠ k) : gE G (gI S k f v) k' = gE G S k' := by
  have e1 : ∀ j, (gI S k f v).1 k' j = S.1 k' j := fun j => by simp [gI, h]
  have e2 : (gI S k f v).1 k' = S.1 k' := funext e1
  unfold gE gFs gAr
  simp only [e2]
  rfl
theorem gE_X {G : gG} {S : gS} {k k' : gK} {f : Nat} {r : Option gK} (h : k' ≠ k) : gE G (gX S k f r) k' = gE G S k' := by
  have e1 : ∀ j, (gX S k f r).2 k' j = S.2 k' j := fun j => by simp [gX, h]
  have e2 : (gX S k f r).2 k' = S.2 k' := funext e1
  unfold gE gFs gAr
  simp only [e2]
  rfl
/-! locals -/
def gPr (G : gG) (lv : List (Option gV)) : List (Nat × Value) := (List.range lv.length).filterMap (fun i => match lv[i]? with
  | some (some v) => some (i, gc G v)
  | _ => none)
theorem gPr_mem {G : gG} {lv : List (Option gV)} {i : Nat} {v : gV} (h : lv[i]? = some (some v)) : (i, gc G v) ∈ gPr G lv := by
  unfold gPr
  refine List.mem_filterMap.mpr ⟨i, List.mem_range.mpr (List.getElem?_eq_some_iff.mp h).1, ?_⟩
  rw [h]
theorem gL.has {G : gG} {ls : Array Slot} {lv : List (Option gV)} (h : gL G ls lv) : lv_has ls lv.length (gPr G lv) := by
  refine ⟨h.1, h.2.1, fun q hq => ?_⟩
  obtain ⟨i, -, hi⟩ := List.mem_filterMap.mp hq
  split at hi
  next v hv => cases hi; exact h.2.2 i v hv
  next => cases hi
theorem gL.store {G : gG} {ls' : Array Slot} {lv : List (Option gV)} {i : Nat} {v : gV} (h : lv_has ls' lv.length ((i, gc G v) :: (gPr G lv).filter (fun q => !(q.1 == i) && !(q.1 + 1 == i && q.2.category == 2)))) : gL G ls' (lv.set i (some v)) := by
  refine ⟨by rw [List.length_set]; exact h.1, h.2.1, fun j w hj => ?_⟩
  by_cases hji : j = i
  · subst hji
    have hl : j < lv.length := by
      have := (List.getElem?_eq_some_iff.mp hj).1
      rw [List.length_set] at this
      exact this
    rw [List.getElem?_set_self hl] at hj
    cases hj
    exact h.2.2 (j, gc G v) List.mem_cons_self
  · rw [List.getElem?_set_ne (Ne.symm hji)] at hj
    refine h.2.2 (j, gc G w) (List.mem_cons_of_mem _ (List.mem_filter.mpr ⟨gPr_mem hj, ?_⟩))
    simp [hji, gc_cat]
theorem gL.weak {G : gG} {ls : Array Slot} {lv lv' : List (Option gV)} (h : gL G ls lv) (hl : lv'.length = lv.length) (hw : ∀ (i : Nat) (v : gV), lv'[i]? = some (some v) → lv[i]? = some (some v)) : gL G ls lv' := ⟨by rw [hl]; exact h.1, h.2.1, fun i v hv => h.2.2 i v (hw i v hv)⟩
/-- lv' knows no more than lv -/
def gLe : List (Option gV) → List (Option gV) → Prop
  | [], [] => True
  | none :: a, _ :: b => gLe a b
  | some v :: a, w :: b => w = some v ∧ gLe a b
  | _, _ => False
theorem gLe.spec : ∀ {a b : List (Option gV)}, gLe a b → a.length = b.length ∧ ∀ (i : Nat) (v : gV), a[i]? = some (some v) → b[i]? = some (some v)
  | [], [], _ => ⟨rfl, fun i v h => by simp at h⟩
  | [], _ :: _, h => by simp [gLe] at h
  | _ :: _, [], h => by rename_i x y; cases x <;> simp [gLe] at h
  | none :: a, w :: b, h => by
    obtain ⟨h1, h2⟩ := gLe.spec (a := a) (b := b) (by simpa [gLe] using h)
    refine ⟨by simp [h1], fun i v hv => ?_⟩
    cases i with
    | zero => simp at hv
    | succ i => simpa using h2 i v (by simpa using hv)
  | some x :: a, w :: b, h => by
    have h' : w = some x ∧ gLe a b := by simpa [gLe] using h
    obtain ⟨h1, h2⟩ := gLe.spec (a := a) (b := b) h'.2
    refine ⟨by simp [h1], fun i v hv => ?_⟩
    cases i with
    | zero => rw [h'.1]; simpa using hv
    | succ i => simpa using h2 i v (by simpa using hv)
/-! what an instruction that names a field rests on -/
def gLk (own : String) (index ci f : Nat) : Prop := ∃ (C : String) (T : u_T) (N : Nat), gCl[ci]? = some (C, T, N) ∧ gNf ci = N ∧ f < N ∧ (∀ w ∈ u_ws C T N, w ∈ gTb) ∧ Cond.fieldLink own index (T f).1 (T f).2.1 (T f).2.2.1 ∈ gTb
/-- and of what type it is, and that names differ; final or not -/
def gLp (own : String) (index ci f : Nat) (ty : FieldType) (fin : Bool) : Prop := ∃ (C : String) (T : u_T) (N : Nat) (ty0 : Nat → FieldType), gCl[ci]? = some (C, T, N) ∧ gNf ci = N ∧ f < N ∧ (∀ w ∈ u_ws C T N, w ∈ gTb) ∧ Cond.fieldLink own index (T f).1 (T f).2.1 (T f).2.2.1 ∈ gTb ∧
  (∀ k, k < N → parseFieldDescriptor (T k).2.2.1 = some (ty0 k)) ∧ (∀ a, a < N → ∀ b, b < N → a ≠ b → (T a).2.1 ≠ (T b).2.1) ∧ ty0 f = ty ∧ (T f).2.2.2 = fin ∧ (fin = true → (T f).1 = own)
section GP
variable {p : Program} {l : Launch} {e : Env} {R : Room} {s : State} {m : MethodId} {args : Array Value} {below : List Frame} {meth : Method} {c : Code} {H : Heap} {locs : List Loc} {cells slots : Nat} {Q : State → Prop}
variable {cc : ByteArray} {pc : Nat} {ls : Array Slot} {rest : List Value} {D : va_G} {A : Nat → Prop} {a : Nat} {tys : List (ClassId × FieldType)} {ws : va_W} {H0 : Heap}
/-- a store into a field, with the heap's size -/
theorem g_put (hexec : p.tables.exec = Jvm.exec) (hb : c.code = cc) {own : String} {index ci f : Nat} {fin : Bool} {ty : FieldType} (hlp : gLp own index ci f ty fin) (hfin : fin = true → meth.name = "<init>") (hts : ∀ w ∈ gTb, w.before args s = true) (hown : s.vm.findClass own = some m.cls) (hK : va_K D gCl tys s) (hP : va_P D gCl ws H) (hD : va_D A ws) (hS0 : va_S A H0 H locs) (q0 : Nat) {fs : List Value} (he : ws[q0]? = some (a, .inr (ci, fs)))
    {v : Value} (hn : narrow ty v = v) (hfit : fits ty v = true) (hl : fs.length = gNf ci) (hdg : decode cc pc = .ok (.putfield index, 3))
    (kk : ∀ (H1 : Heap) (locs1 : List Loc), va_P D gCl (ws.set q0 (a, .inr (ci, fs.set f v))) H1 → H1.size = H.size → va_S A H0 H1 locs1 → W p l e R s m args below meth c H1 locs1 cells slots Q (F0 m (pc + 3) ls rest)) : W p l e R s m args below meth c H locs cells slots Q (F0 m pc ls (v :: .ref a :: rest)) := by
  obtain ⟨C, T, N, ty0, hc, hN, hf, hu, hw, hty, hnm, hty1, hfi, hdecl⟩ := hlp
  have hd : parseFieldDescriptor (T f).2.2.1 = some ty := by rw [hty f hf, hty1]
  have hap := va_apart (own := own) hts hu ty0 hty hnm hK hc
  obtain ⟨r, h1, cell, q1, q2, q3, q4⟩ := hP q0 _ he
  have hr : r = (C, T, N) := Option.some.inj (h1.symm.trans hc)
  subst hr
  obtain ⟨hS, hfc, kC, hkC, hkind⟩ := hK.1 ci _ hc
  obtain ⟨cf, kf, fi, fd, hi, hsl⟩ := hS f hf
  have hst := (u_facts hfc hkC (u_lays hts hu hf) hi).1
  have hgo : ∀ H' : Heap, H'[a]? = some (cell.setSlot fd.slot v) → H'.size = H.size → (∀ q, q ≠ a → H'[q]? = H[q]?) → W p l e R s m args below meth c H' (locs ++ [⟨a, fd.slot⟩]) cells slots Q (F0 m (pc + 3) ls rest) := by
    intro H' e1 e2 e3
    rw [hsl] at e1 ⊢
    exact kk H' _ (hP.set hD he ⟨_, hc, t_OB.to (V := updV (vp_V fs) f v) ⟨_, e1, q2, q3, t_set q4 hap hf v⟩ (fun j _ => vp_updV_set (by rw [hl, hN]; exact hf) v j)⟩ e3) e2 (hS0.put e2 e3 (hD.2 q0 _ he))
  have hlt : fd.slot < cell.slots.size := by rw [hsl]; exact k2_hasslot (q4 f hf)
  have hlay := hts _ (hu _ (u_in_lay hf))
  unfold u_lay at hlay
  cases fin with
  | false =>
    rw [if_neg (by rw [hfi]; decide)] at hlay
    have h6 := u_store hfc hkC hkind hlay hi hd hn hfit
    exact W.putK hexec hb (f := fd) ⟨hown, hts _ hw, ⟨_, _, _, hi⟩, hst⟩ (by rw [q2]; exact h6) q1 q3 hlt rfl rfl hdg hgo
  | true =>
    rw [if_pos hfi] at hlay
    have hcf : m.cls = cf := by
      obtain ⟨_, _, c', _, _, _, -, -, hf', -, -, -, hown2, -⟩ := Cond.laysFinal_spec hlay
      have e1 : c' = cf := by have := hi.symm.trans hf'; simp at this; exact this.1.symm
      rw [hdecl rfl] at hown2
      rw [← e1]; exact Option.some.inj (hown.symm.trans hown2)
    have h6 := u_fits hfc hkC hkind (Or.inr hlay) hi hd hn hfit
    exact W.putFinK hexec hb hown (hts _ hw) hi hst hcf (hfin rfl) (by rw [q2]; exact h6) q1 q3 hlt rfl rfl hdg hgo
/-- stores into arrays, with the heap's size -/
theorem g_iast (hexec : p.tables.exec = Jvm.exec) (hb : c.code = cc) (hK : va_K D gCl tys s) (hP : va_P D gCl ws H) (hD : va_D A ws) (hS : va_S A H0 H locs) (q0 t0 : Nat) {cA : ClassId} {n : Nat} {f : Nat → Int32} (ha : ws[q0]? = some (a, .inl (cA, n, .inl f))) (ht : tys[t0]? = some (cA, .int)) {i : Int32} {x : Int32} (hin : vp_in i n) (hdg : decode cc pc = .ok (.iastore, 1))
    (kk : ∀ (H1 : Heap) (locs1 : List Loc), va_P D gCl (ws.set q0 (a, .inl (cA, n, .inl (upd f i.toNatClampNeg x)))) H1 → H1.size = H.size → va_S A H0 H1 locs1 → W p l e R s m args below meth c H1 locs1 cells slots Q (F0 m (pc + 1) ls rest)) : W p l e R s m args below meth c H locs cells slots Q (F0 m pc ls (.int x :: .int i :: .ref a :: rest)) := by
  refine W.iast hexec hb (hP q0 _ ha) ((hK.2 t0 _ ht).1 n (fun j => .int (f j))) (fun q => by cases q) (by show ¬ (i < 0 ∨ (arrV _ _ _).slots.size ≤ _); rw [arrV_size]; exact hin) rfl rfl hdg fun H1 e z oq => ?_
  refine kk H1 _ (hP.set hD ha ?_ oq) z (hS.put z oq (hD.2 q0 _ ha))
  show H1[a]? = some (vp_cell _ _)
  rw [e, vp_cell_i, vp_cell_i, arrV_store]
  congr 2
  funext q
  by_cases hq : q = i.toNatClampNeg
  · subst hq
    simp [updV, upd]
  · simp [updV, upd, hq]
theorem g_zast (hexec : p.tables.exec = Jvm.exec) (hb : c.code = cc) (hK : va_K D gCl tys s) (hP : va_P D gCl ws H) (hD : va_D A ws) (hS : va_S A H0 H locs) (q0 t0 : Nat) {cA : ClassId} {n : Nat} {f : Nat → Int32} (ha : ws[q0]? = some (a, .inl (cA, n, .inl f))) (ht : tys[t0]? = some (cA, .boolean)) {i : Int32} {x : Int32} (hx : narrow .boolean (.int x) = .int x) (hin : vp_in i n) (hdg : decode cc pc = .ok (.bastore, 1))
    (kk : ∀ (H1 : Heap) (locs1 : List Loc), va_P D gCl (ws.set q0 (a, .inl (cA, n, .inl (upd f i.toNatClampNeg x)))) H1 → H1.size = H.size → va_S A H0 H1 locs1 → W p l e R s m args below meth c H1 locs1 cells slots Q (F0 m (pc + 1) ls rest)) : W p l e R s m args below meth c H locs cells slots Q (F0 m pc ls (.int x :: .int i :: .ref a :: rest)) := by
  refine W.zast hexec hb (hP q0 _ ha) ((hK.2 t0 _ ht).1 n (fun j => .int (f j))) (fun q => by cases q) (by show ¬ (i < 0 ∨ (arrV _ _ _).slots.size ≤ _); rw [arrV_size]; exact hin) rfl rfl hdg fun H1 e z oq => ?_
  refine kk H1 _ (hP.set hD ha ?_ oq) z (hS.put z oq (hD.2 q0 _ ha))
  show H1[a]? = some (vp_cell _ _)
  rw [e, hx, vp_cell_i, vp_cell_i, arrV_store]
  congr 2
  funext q
  by_cases hq : q = i.toNatClampNeg
  · subst hq
    simp [updV, upd]
  · simp [updV, upd, hq]
theorem g_aast (hexec : p.tables.exec = Jvm.exec) (hb : c.code = cc) (hK : va_K D gCl tys s) (hP : va_P D gCl ws H) (hD : va_D A ws) (hS : va_S A H0 H locs) (q0 t0 qk ci : Nat) {cA : ClassId} {r : vw_C} {n v : Nat} {vs : List Value} {f : Nat → Option Nat} (ha : ws[q0]? = some (a, .inl (cA, n, .inr (.inr (.inr (.inr f)))))) (ht : tys[t0]? = some (cA, .object r.1)) (hv : ws[qk]? = some (v, .inr (ci, vs))) (hc : gCl[ci]? = some r) {i : Int32} (hin : vp_in i n) (hdg : decode cc pc = .ok (.aastore, 1))
    (kk : ∀ (H1 : Heap) (locs1 : List Loc), va_P D gCl (ws.set q0 (a, .inl (cA, n, .inr (.inr (.inr (.inr (va_up f i.toNatClampNeg (some v)))))))) H1 → H1.size = H.size → va_S A H0 H1 locs1 → W p l e R s m args below meth c H1 locs1 cells slots Q (F0 m (pc + 1) ls rest)) : W p l e R s m args below meth c H locs cells slots Q (F0 m pc ls (.ref v :: .int i :: .ref a :: rest)) := by
  have hlt : i.toNatClampNeg < n := Nat.not_le.mp fun q => hin (Or.inr q)
  have h0 : ¬ i < 0 := fun q => hin (Or.inl q)
  obtain ⟨r', hr', cellV, g1, g2, g3, -⟩ := hP qk _ hv
  have hcls := (hK.1 ci r hc).2
  obtain ⟨kA, comp, k1, k2, k3, -⟩ := (hK.2 t0 _ ht).2
  have hcomp : comp = D.1 ci := Option.some.inj (k3.symm.trans hcls.1)
  subst hcomp
  obtain ⟨kC, hkC, -⟩ := hcls.2
  refine W.aast hexec hb (hP q0 _ ha) (fun q h => by cases h) (fun h => by cases h) k1 k2 rfl hkC ⟨h0, by show _ < (arrV _ _ _).slots.size; rw [arrV_size]; exact hlt⟩ g1 (fun q h => by rw [g3] at h; cases h) (by rw [g2]; exact hkC) (by rw [g2]; exact va_assign hcls) rfl rfl hdg fun H1 e z oq => ?_
  refine kk H1 _ (hP.set hD ha ?_ oq) z (hS.put z oq (hD.2 q0 _ ha))
  show H1[a]? = some (vp_cell _ _)
  rw [e, vp_cell_q, vp_cell_q, arrV_store]
  congr 2
  funext q
  by_cases hq : q = i.toNatClampNeg
  · subst hq
    simp [updV, va_up, va_rf]
  · simp [updV, va_up, hq]
end GP
section GZ
variable {G : gG} {E : gEnv} {cells slots : Nat} {Q : State → Prop} {t pc : Nat} {lv : List (Option gV)} {st : List gV} {S : gS} {cc : ByteArray} {nL : Nat} {own : String} {d : Nat}
theorem gz_iconst (cx : gC G E cc nL own d) {n : Int} {v : Int32} (hd : decode cc pc = .ok (.iconst n, 1)) (hv : Int32.ofInt n = v) (k : gZ G E cells slots Q t (pc + 1) lv (.inl v :: st) S) : gZ G E cells slots Q t pc lv (st) S :=
  fun ls H locs hl hP hS => lv_iconst cx.1 cx.2.1 hd hv (k ls H locs hl hP hS)
theorem gz_bipush (cx : gC G E cc nL own d) {n : Int} {v : Int32} (hd : decode cc pc = .ok (.bipush n, 2)) (hv : (Int8.ofInt n).toInt32 = v) (k : gZ G E cells slots Q t (pc + 2) lv (.inl v :: st) S) : gZ G E cells slots Q t pc lv (st) S :=
  fun ls H locs hl hP hS => lv_bipush cx.1 cx.2.1 hd hv (k ls H locs hl hP hS)
theorem gz_sipush (cx : gC G E cc nL own d) {n : Int} {v : Int32} (hd : decode cc pc = .ok (.sipush n, 3)) (hv : (Int16.ofInt n).toInt32 = v) (k : gZ G E cells slots Q t (pc + 3) lv (.inl v :: st) S) : gZ G E cells slots Q t pc lv (st) S :=
  fun ls H locs hl hP hS => lv_sipush cx.1 cx.2.1 hd hv (k ls H locs hl hP hS)
theorem gz_iload_n (cx : gC G E cc nL own d) {k : Fin 4} {i : Nat} {x : Int32} (hd : decode cc pc = .ok (.iload_n k, 1)) (hi : (k : Nat) = i) (hx : lv[i]? = some (some (.inl x))) (k : gZ G E cells slots Q t (pc + 1) lv (.inl x :: st) S) : gZ G E cells slots Q t pc lv (st) S :=
  fun ls H locs hl hP hS => lv_iload_n cx.1 cx.2.1 hd hi (hl.2.2 _ _ hx) (k ls H locs hl hP hS)
theorem gz_iload (cx : gC G E cc nL own d) {i : Nat} {x : Int32} (hd : decode cc pc = .ok (.iload i, 2)) (hx : lv[i]? = some (some (.inl x))) (k : gZ G E cells slots Q t (pc + 2) lv (.inl x :: st) S) : gZ G E cells slots Q t pc lv (st) S :=
  fun ls H locs hl hP hS => lv_iload cx.1 cx.2.1 hd (hl.2.2 _ _ hx) (k ls H locs hl hP hS)
theorem gz_istore_n (cx : gC G E cc nL own d) {k : Fin 4} {i : Nat} {x : Int32} (hd : decode cc pc = .ok (.istore_n k, 1)) (hi : (k : Nat) = i) (hn : i < lv.length) (k : gZ G E cells slots Q t (pc + 1) (lv.set i (some (.inl x))) (st) S) : gZ G E cells slots Q t pc lv (.inl x :: st) S :=
  fun ls H locs hl hP hS => lv_istore_n cx.1 cx.2.1 hd hi hl.has hn rfl (fun ls' h' => k ls' H locs (gL.store (v := .inl x) h') hP hS)
theorem gz_istore (cx : gC G E cc nL own d) {i : Nat} {x : Int32} (hd : decode cc pc = .ok (.istore i, 2)) (hn : i < lv.length) (k : gZ G E cells slots Q t (pc + 2) (lv.set i (some (.inl x))) (st) S) : gZ G E cells slots Q t pc lv (.inl x :: st) S :=
  fun ls H locs hl hP hS => lv_istore cx.1 cx.2.1 hd hl.has hn rfl (fun ls' h' => k ls' H locs (gL.store (v := .inl x) h') hP hS)
theorem gz_aload_n (cx : gC G E cc nL own d) {k : Fin 4} {i : Nat} {x : gK} (hd : decode cc pc = .ok (.aload_n k, 1)) (hi : (k : Nat) = i) (hx : lv[i]? = some (some (.inr (some x)))) (k : gZ G E cells slots Q t (pc + 1) lv (.inr (some x) :: st) S) : gZ G E cells slots Q t pc lv (st) S :=
  fun ls H locs hl hP hS => lv_aload_n cx.1 cx.2.1 hd hi (hl.2.2 _ _ hx) (k ls H locs hl hP hS)
theorem gz_aload (cx : gC G E cc nL own d) {i : Nat} {x : gK} (hd : decode cc pc = .ok (.aload i, 2)) (hx : lv[i]? = some (some (.inr (some x)))) (k : gZ G E cells slots Q t (pc + 2) lv (.inr (some x) :: st) S) : gZ G E cells slots Q t pc lv (st) S :=
  fun ls H locs hl hP hS => lv_aload cx.1 cx.2.1 hd (hl.2.2 _ _ hx) (k ls H locs hl hP hS)
theorem gz_astore_n (cx : gC G E cc nL own d) {k : Fin 4} {i : Nat} {x : gK} (hd : decode cc pc = .ok (.astore_n k, 1)) (hi : (k : Nat) = i) (hn : i < lv.length) (k : gZ G E cells slots Q t (pc + 1) (lv.set i (some (.inr (some x)))) (st) S) : gZ G E cells slots Q t pc lv (.inr (some x) :: st) S :=
  fun ls H locs hl hP hS => lv_astore_n cx.1 cx.2.1 hd hi hl.has hn rfl (fun ls' h' => k ls' H locs (gL.store (v := .inr (some x)) h') hP hS)
theorem gz_astore (cx : gC G E cc nL own d) {i : Nat} {x : gK} (hd : decode cc pc = .ok (.astore i, 2)) (hn : i < lv.length) (k : gZ G E cells slots Q t (pc + 2) (lv.set i (some (.inr (some x)))) (st) S) : gZ G E cells slots Q t pc lv (.inr (some x) :: st) S :=
  fun ls H locs hl hP hS => lv_astore cx.1 cx.2.1 hd hl.has hn rfl (fun ls' h' => k ls' H locs (gL.store (v := .inr (some x)) h') hP hS)
theorem gz_iinc (cx : gC G E cc nL own d) {i : Nat} {n : Int} {x v : Int32} (hd : decode cc pc = .ok (.iinc i n, 3)) (hx : lv[i]? = some (some (.inl x))) (hv : x + Int32.ofInt n = v) (k : gZ G E cells slots Q t (pc + 3) (lv.set i (some (.inl v))) st S) : gZ G E cells slots Q t pc lv st S := by
  intro ls H locs hl hP hS
  obtain ⟨j, hj⟩ := List.getElem?_of_mem (gPr_mem (G := G) hx)
  exact lv_iinc cx.1 cx.2.1 hd hl.has hj hv (List.getElem?_eq_some_iff.mp hx).1 rfl (fun ls' h' => k ls' H locs (gL.store (v := .inl v) h') hP hS)
theorem gz_iadd (cx : gC G E cc nL own d) {x y : Int32} (hd : decode cc pc = .ok (.iadd, 1)) (k : gZ G E cells slots Q t (pc + 1) lv (.inl (x + y) :: st) S) : gZ G E cells slots Q t pc lv (.inl y :: .inl x :: st) S :=
  fun ls H locs hl hP hS => lv_iadd cx.1 cx.2.1 hd (k ls H locs hl hP hS)
theorem gz_isub (cx : gC G E cc nL own d) {x y : Int32} (hd : decode cc pc = .ok (.isub, 1)) (k : gZ G E cells slots Q t (pc + 1) lv (.inl (x - y) :: st) S) : gZ G E cells slots Q t pc lv (.inl y :: .inl x :: st) S :=
  fun ls H locs hl hP hS => lv_isub cx.1 cx.2.1 hd (k ls H locs hl hP hS)
theorem gz_imul (cx : gC G E cc nL own d) {x y : Int32} (hd : decode cc pc = .ok (.imul, 1)) (k : gZ G E cells slots Q t (pc + 1) lv (.inl (x * y) :: st) S) : gZ G E cells slots Q t pc lv (.inl y :: .inl x :: st) S :=
  fun ls H locs hl hP hS => lv_imul cx.1 cx.2.1 hd (k ls H locs hl hP hS)
theorem gz_iand (cx : gC G E cc nL own d) {x y : Int32} (hd : decode cc pc = .ok (.iand, 1)) (k : gZ G E cells slots Q t (pc + 1) lv (.inl (x &&& y) :: st) S) : gZ G E cells slots Q t pc lv (.inl y :: .inl x :: st) S :=
  fun ls H locs hl hP hS => lv_iand cx.1 cx.2.1 hd (k ls H locs hl hP hS)
theorem gz_ior (cx : gC G E cc nL own d) {x y : Int32} (hd : decode cc pc = .ok (.ior, 1)) (k : gZ G E cells slots Q t (pc + 1) lv (.inl (x ||| y) :: st) S) : gZ G E cells slots Q t pc lv (.inl y :: .inl x :: st) S :=
  fun ls H locs hl hP hS => lv_ior cx.1 cx.2.1 hd (k ls H locs hl hP hS)
theorem gz_ixor (cx : gC G E cc nL own d) {x y : Int32} (hd : decode cc pc = .ok (.ixor, 1)) (k : gZ G E cells slots Q t (pc + 1) lv (.inl (x ^^^ y) :: st) S) : gZ G E cells slots Q t pc lv (.inl y :: .inl x :: st) S :=
  fun ls H locs hl hP hS => lv_ixor cx.1 cx.2.1 hd (k ls H locs hl hP hS)
theorem gz_ishl (cx : gC G E cc nL own d) {x y : Int32} (hd : decode cc pc = .ok (.ishl, 1)) (k : gZ G E cells slots Q t (pc + 1) lv (.inl (x <<< (y &&& 31)) :: st) S) : gZ G E cells slots Q t pc lv (.inl y :: .inl x :: st) S :=
  fun ls H locs hl hP hS => lv_ishl cx.1 cx.2.1 hd (k ls H locs hl hP hS)
theorem gz_ishr (cx : gC G E cc nL own d) {x y : Int32} (hd : decode cc pc = .ok (.ishr, 1)) (k : gZ G E cells slots Q t (pc + 1) lv (.inl (x >>> (y &&& 31)) :: st) S) : gZ G E cells slots Q t pc lv (.inl y :: .inl x :: st) S :=
  fun ls H locs hl hP hS => lv_ishr cx.1 cx.2.1 hd (k ls H locs hl hP hS)
theorem gz_irem (cx : gC G E cc nL own d) {x y : Int32} (hd : decode cc pc = .ok (.irem, 1)) (hne : ¬ y = 0) (k : gZ G E cells slots Q t (pc + 1) lv (.inl (x - x / y * y) :: st) S) : gZ G E cells slots Q t pc lv (.inl y :: .inl x :: st) S :=
  fun ls H locs hl hP hS => lv_irem cx.1 cx.2.1 hd hne (k ls H locs hl hP hS)
theorem gz_idiv (cx : gC G E cc nL own d) {x y : Int32} (hd : decode cc pc = .ok (.idiv, 1)) (hne : ¬ y = 0) (k : gZ G E cells slots Q t (pc + 1) lv (.inl (x / y) :: st) S) : gZ G E cells slots Q t pc lv (.inl y :: .inl x :: st) S :=
  fun ls H locs hl hP hS => lv_idiv cx.1 cx.2.1 hd hne (k ls H locs hl hP hS)
theorem gz_ineg (cx : gC G E cc nL own d) {x : Int32} (hd : decode cc pc = .ok (.ineg, 1)) (k : gZ G E cells slots Q t (pc + 1) lv (.inl (-x) :: st) S) : gZ G E cells slots Q t pc lv (.inl x :: st) S :=
  fun ls H locs hl hP hS => lv_ineg cx.1 cx.2.1 hd (k ls H locs hl hP hS)
theorem gz_iushr (cx : gC G E cc nL own d) {x y v : Int32} (hd : decode cc pc = .ok (.iushr, 1)) (hv : (x.toUInt32 >>> (y.toUInt32 &&& Int32.toUInt32 31)).toInt32 = v) (k : gZ G E cells slots Q t (pc + 1) lv (.inl v :: st) S) : gZ G E cells slots Q t pc lv (.inl y :: .inl x :: st) S :=
  fun ls H locs hl hP hS => lv_iushr cx.1 cx.2.1 hd hv (k ls H locs hl hP hS)
theorem gz_dup (cx : gC G E cc nL own d) {x : gV} (hd : decode cc pc = .ok (.dup, 1)) (k : gZ G E cells slots Q t (pc + 1) lv (x :: x :: st) S) : gZ G E cells slots Q t pc lv (x :: st) S :=
  fun ls H locs hl hP hS => lv_dup cx.1 cx.2.1 hd (gc_cat G x) (k ls H locs hl hP hS)
theorem gz_pop (cx : gC G E cc nL own d) {x : gV} (hd : decode cc pc = .ok (.pop, 1)) (k : gZ G E cells slots Q t (pc + 1) lv (st) S) : gZ G E cells slots Q t pc lv (x :: st) S :=
  fun ls H locs hl hP hS => lv_pop cx.1 cx.2.1 hd (gc_cat G x) (k ls H locs hl hP hS)
theorem gz_dup_x1 (cx : gC G E cc nL own d) {x y : gV} (hd : decode cc pc = .ok (.dup_x1, 1)) (k : gZ G E cells slots Q t (pc + 1) lv (x :: y :: x :: st) S) : gZ G E cells slots Q t pc lv (x :: y :: st) S :=
  fun ls H locs hl hP hS => lv_dup_x1 cx.1 cx.2.1 hd (gc_cat G x) (gc_cat G y) (k ls H locs hl hP hS)
theorem gz_dup_x2 (cx : gC G E cc nL own d) {x y z : gV} (hd : decode cc pc = .ok (.dup_x2, 1)) (k : gZ G E cells slots Q t (pc + 1) lv (x :: y :: z :: x :: st) S) : gZ G E cells slots Q t pc lv (x :: y :: z :: st) S :=
  fun ls H locs hl hP hS => lv_dup_x2 cx.1 cx.2.1 hd (gc_cat G x) (gc_cat G y) (gc_cat G z) (k ls H locs hl hP hS)
theorem gz_dup2 (cx : gC G E cc nL own d) {x y : gV} (hd : decode cc pc = .ok (.dup2, 1)) (k : gZ G E cells slots Q t (pc + 1) lv (x :: y :: x :: y :: st) S) : gZ G E cells slots Q t pc lv (x :: y :: st) S :=
  fun ls H locs hl hP hS => lv_dup2_11 cx.1 cx.2.1 hd (gc_cat G x) (gc_cat G y) (k ls H locs hl hP hS)
theorem gz_icmp_eq (cx : gC G E cc nL own d) {x y : Int32} {off : Int} {tgt : Nat} (hd : decode cc pc = .ok (.if_icmp .eq off, 3)) (ht : (pc : Int) + off = (tgt : Int)) (kt : x = y → gZ G E cells slots Q t tgt lv st S) (kf : ¬ (x = y) → gZ G E cells slots Q t (pc + 3) lv st S) : gZ G E cells slots Q t pc lv (.inl y :: .inl x :: st) S :=
  fun ls H locs hl hP hS => lv_icmp_eq cx.1 cx.2.1 hd ht (fun q => kt q ls H locs hl hP hS) (fun q => kf q ls H locs hl hP hS)
theorem gz_if_eq (cx : gC G E cc nL own d) {x : Int32} {off : Int} {tgt : Nat} (hd : decode cc pc = .ok (.ifCond .eq off, 3)) (ht : (pc : Int) + off = (tgt : Int)) (kt : x = 0 → gZ G E cells slots Q t tgt lv st S) (kf : ¬ (x = 0) → gZ G E cells slots Q t (pc + 3) lv st S) : gZ G E cells slots Q t pc lv (.inl x :: st) S :=
  fun ls H locs hl hP hS => lv_if_eq cx.1 cx.2.1 hd ht (fun q => kt q ls H locs hl hP hS) (fun q => kf q ls H locs hl hP hS)
theorem gz_icmp_ne (cx : gC G E cc nL own d) {x y : Int32} {off : Int} {tgt : Nat} (hd : decode cc pc = .ok (.if_icmp .ne off, 3)) (ht : (pc : Int) + off = (tgt : Int)) (kt : ¬ x = y → gZ G E cells slots Q t tgt lv st S) (kf : x = y → gZ G E cells slots Q t (pc + 3) lv st S) : gZ G E cells slots Q t pc lv (.inl y :: .inl x :: st) S :=
  fun ls H locs hl hP hS => lv_icmp_ne cx.1 cx.2.1 hd ht (fun q => kt q ls H locs hl hP hS) (fun q => kf q ls H locs hl hP hS)
theorem gz_if_ne (cx : gC G E cc nL own d) {x : Int32} {off : Int} {tgt : Nat} (hd : decode cc pc = .ok (.ifCond .ne off, 3)) (ht : (pc : Int) + off = (tgt : Int)) (kt : ¬ x = 0 → gZ G E cells slots Q t tgt lv st S) (kf : x = 0 → gZ G E cells slots Q t (pc + 3) lv st S) : gZ G E cells slots Q t pc lv (.inl x :: st) S :=
  fun ls H locs hl hP hS => lv_if_ne cx.1 cx.2.1 hd ht (fun q => kt q ls H locs hl hP hS) (fun q => kf q ls H locs hl hP hS)
theorem gz_icmp_lt (cx : gC G E cc nL own d) {x y : Int32} {off : Int} {tgt : Nat} (hd : decode cc pc = .ok (.if_icmp .lt off, 3)) (ht : (pc : Int) + off = (tgt : Int)) (kt : x < y → gZ G E cells slots Q t tgt lv st S) (kf : ¬ (x < y) → gZ G E cells slots Q t (pc + 3) lv st S) : gZ G E cells slots Q t pc lv (.inl y :: .inl x :: st) S :=
  fun ls H locs hl hP hS => lv_icmp_lt cx.1 cx.2.1 hd ht (fun q => kt q ls H locs hl hP hS) (fun q => kf q ls H locs hl hP hS)
theorem gz_if_lt (cx : gC G E cc nL own d) {x : Int32} {off : Int} {tgt : Nat} (hd : decode cc pc = .ok (.ifCond .lt off, 3)) (ht : (pc : Int) + off = (tgt : Int)) (kt : x < 0 → gZ G E cells slots Q t tgt lv st S) (kf : ¬ (x < 0) → gZ G E cells slots Q t (pc + 3) lv st S) : gZ G E cells slots Q t pc lv (.inl x :: st) S :=
  fun ls H locs hl hP hS => lv_if_lt cx.1 cx.2.1 hd ht (fun q => kt q ls H locs hl hP hS) (fun q => kf q ls H locs hl hP hS)
theorem gz_icmp_ge (cx : gC G E cc nL own d) {x y : Int32} {off : Int} {tgt : Nat} (hd : decode cc pc = .ok (.if_icmp .ge off, 3)) (ht : (pc : Int) + off = (tgt : Int)) (kt : y ≤ x → gZ G E cells slots Q t tgt lv st S) (kf : ¬ (y ≤ x) → gZ G E cells slots Q t (pc + 3) lv st S) : gZ G E cells slots Q t pc lv (.inl y :: .inl x :: st) S :=
  fun ls H locs hl hP hS => lv_icmp_ge cx.1 cx.2.1 hd ht (fun q => kt q ls H locs hl hP hS) (fun q => kf q ls H locs hl hP hS)
theorem gz_if_ge (cx : gC G E cc nL own d) {x : Int32} {off : Int} {tgt : Nat} (hd : decode cc pc = .ok (.ifCond .ge off, 3)) (ht : (pc : Int) + off = (tgt : Int)) (kt : 0 ≤ x → gZ G E cells slots Q t tgt lv st S) (kf : ¬ (0 ≤ x) → gZ G E cells slots Q t (pc + 3) lv st S) : gZ G E cells slots Q t pc lv (.inl x :: st) S :=
  fun ls H locs hl hP hS => lv_if_ge cx.1 cx.2.1 hd ht (fun q => kt q ls H locs hl hP hS) (fun q => kf q ls H locs hl hP hS)
theorem gz_icmp_gt (cx : gC G E cc nL own d) {x y : Int32} {off : Int} {tgt : Nat} (hd : decode cc pc = .ok (.if_icmp .gt off, 3)) (ht : (pc : Int) + off = (tgt : Int)) (kt : y < x → gZ G E cells slots Q t tgt lv st S) (kf : ¬ (y < x) → gZ G E cells slots Q t (pc + 3) lv st S) : gZ G E cells slots Q t pc lv (.inl y :: .inl x :: st) S :=
  fun ls H locs hl hP hS => lv_icmp_gt cx.1 cx.2.1 hd ht (fun q => kt q ls H locs hl hP hS) (fun q => kf q ls H locs hl hP hS)
theorem gz_if_gt (cx : gC G E cc nL own d) {x : Int32} {off : Int} {tgt : Nat} (hd : decode cc pc = .ok (.ifCond .gt off, 3)) (ht : (pc : Int) + off = (tgt : Int)) (kt : 0 < x → gZ G E cells slots Q t tgt lv st S) (kf : ¬ (0 < x) → gZ G E cells slots Q t (pc + 3) lv st S) : gZ G E cells slots Q t pc lv (.inl x :: st) S :=
  fun ls H locs hl hP hS => lv_if_gt cx.1 cx.2.1 hd ht (fun q => kt q ls H locs hl hP hS) (fun q => kf q ls H locs hl hP hS)
theorem gz_icmp_le (cx : gC G E cc nL own d) {x y : Int32} {off : Int} {tgt : Nat} (hd : decode cc pc = .ok (.if_icmp .le off, 3)) (ht : (pc : Int) + off = (tgt : Int)) (kt : x ≤ y → gZ G E cells slots Q t tgt lv st S) (kf : ¬ (x ≤ y) → gZ G E cells slots Q t (pc + 3) lv st S) : gZ G E cells slots Q t pc lv (.inl y :: .inl x :: st) S :=
  fun ls H locs hl hP hS => lv_icmp_le cx.1 cx.2.1 hd ht (fun q => kt q ls H locs hl hP hS) (fun q => kf q ls H locs hl hP hS)
theorem gz_if_le (cx : gC G E cc nL own d) {x : Int32} {off : Int} {tgt : Nat} (hd : decode cc pc = .ok (.ifCond .le off, 3)) (ht : (pc : Int) + off = (tgt : Int)) (kt : x ≤ 0 → gZ G E cells slots Q t tgt lv st S) (kf : ¬ (x ≤ 0) → gZ G E cells slots Q t (pc + 3) lv st S) : gZ G E cells slots Q t pc lv (.inl x :: st) S :=
  fun ls H locs hl hP hS => lv_if_le cx.1 cx.2.1 hd ht (fun q => kt q ls H locs hl hP hS) (fun q => kf q ls H locs hl hP hS)
theorem gz_goto (cx : gC G E cc nL own d) {off : Int} {tgt : Nat} (hd : decode cc pc = .ok (.goto off, 3)) (ht : (pc : Int) + off = (tgt : Int)) (k : gZ G E cells slots Q t tgt lv st S) : gZ G E cells slots Q t pc lv st S :=
  fun ls H locs hl hP hS => lv_goto cx.1 cx.2.1 hd ht (k ls H locs hl hP hS)
theorem gz_tableOut (cx : gC G E cc nL own d) {dflt lo hi : Int} {offs : Array Int} {len : Nat} {x : Int32} {tgt : Nat} (hd : decode cc pc = .ok (.tableswitch dflt lo hi offs, len)) (h : x.toInt < lo ∨ hi < x.toInt) (ht : (pc : Int) + dflt = (tgt : Int)) (k : gZ G E cells slots Q t tgt lv st S) : gZ G E cells slots Q t pc lv (.inl x :: st) S :=
  fun ls H locs hl hP hS => lv_tableOut cx.1 cx.2.1 hd h ht (k ls H locs hl hP hS)
theorem gz_tableIn (cx : gC G E cc nL own d) {dflt lo hi : Int} {offs : Array Int} {len : Nat} {x : Int32} {off : Int} {tgt : Nat} (hd : decode cc pc = .ok (.tableswitch dflt lo hi offs, len)) (h1 : ¬ x.toInt < lo) (h2 : ¬ hi < x.toInt) (ho : offs[(x.toInt - lo).toNat]? = some off) (ht : (pc : Int) + off = (tgt : Int)) (k : gZ G E cells slots Q t tgt lv st S) : gZ G E cells slots Q t pc lv (.inl x :: st) S :=
  fun ls H locs hl hP hS => lv_tableIn cx.1 cx.2.1 hd h1 h2 ho ht (k ls H locs hl hP hS)
theorem gz_weak {lv' : List (Option gV)} (h : gLe lv' lv) (k : gZ G E cells slots Q t pc lv' st S) : gZ G E cells slots Q t pc lv st S :=
  fun ls H locs hl hP hS => k ls H locs (hl.weak (gLe.spec h).1 (gLe.spec h).2) hP hS
/-! fields -/
theorem gz_getI (cx : gC G E cc nL own d) {k : gK} {index ci f : Nat} (hlk : gLk own index ci f) (hd : decode cc pc = .ok (.getfield index, 3)) (hk : k ∈ gKs G t) (hs : gSh G.1 k = .inl ci) (hr : gRf ci f = false)
    (kk : gZ G E cells slots Q t (pc + 3) lv (.inl (S.1 k f) :: st) S) : gZ G E cells slots Q t pc lv (.inr (some k) :: st) S := by
  intro ls H locs hl hP hS
  obtain ⟨C, T, N, hc, hN, hf, hu, hw⟩ := hlk
  obtain ⟨hx, hb, hml, hown, hts, hK, hfr, hlo, hsy⟩ := cx
  obtain ⟨i, hi, hg⟩ := gW_get (S := S) hk
  rw [gE_obj hs] at hg
  exact va_get (v := .int (S.1 k f)) hx hb hts hu hown hK.1 hP.1 i hg hc f hf (hts _ hw) (fun _ h => h) (by rw [gFs_at (by rw [hN]; exact hf), hr]; rfl) hd (kk ls H locs hl hP hS)
theorem gz_getR (cx : gC G E cc nL own d) {k : gK} {r : Option gK} {index ci f : Nat} (hlk : gLk own index ci f) (hd : decode cc pc = .ok (.getfield index, 3)) (hk : k ∈ gKs G t) (hs : gSh G.1 k = .inl ci) (hr : gRf ci f = true) (hv : S.2 k f = r)
    (kk : gZ G E cells slots Q t (pc + 3) lv (.inr r :: st) S) : gZ G E cells slots Q t pc lv (.inr (some k) :: st) S := by
  subst hv
  intro ls H locs hl hP hS
  obtain ⟨C, T, N, hc, hN, hf, hu, hw⟩ := hlk
  obtain ⟨hx, hb, hml, hown, hts, hK, hfr, hlo, hsy⟩ := cx
  obtain ⟨i, hi, hg⟩ := gW_get (S := S) hk
  rw [gE_obj hs] at hg
  exact va_get (v := gRv G (S.2 k f)) hx hb hts hu hown hK.1 hP.1 i hg hc f hf (hts _ hw) (fun _ h => h) (by rw [gFs_at (by rw [hN]; exact hf), hr]; rfl) hd (kk ls H locs hl hP hS)
theorem gFs_I {k : gK} {ci f : Nat} {v : Int32} (hr : gRf ci f = false) : (gFs G S k ci).set f (.int v) = gFs G (gI S k f v) k ci := by
  apply List.ext_getElem?
  intro j
  by_cases hj : j < gNf ci
  · by_cases hjf : j = f
    · subst hjf
      rw [List.getElem?_set_self (by rw [gFs_len]; exact hj), gFs_at hj, hr]
      simp [gI]
    · rw [List.getElem?_set_ne (Ne.symm hjf), gFs_at hj, gFs_at hj]
      simp [gI, hjf]
  · rw [List.getElem?_eq_none (by rw [List.length_set, gFs_len]; omega), List.getElem?_eq_none (by rw [gFs_len]; omega)]
theorem gFs_X {k : gK} {ci f : Nat} {r : Option gK} (hr : gRf ci f = true) : (gFs G S k ci).set f (gRv G r) = gFs G (gX S k f r) k ci := by
  apply List.ext_getElem?
  intro j
  by_cases hj : j < gNf ci
  · by_cases hjf : j = f
    · subst hjf
      rw [List.getElem?_set_self (by rw [gFs_len]; exact hj), gFs_at hj, hr]
      simp [gX]
    · rw [List.getElem?_set_ne (Ne.symm hjf), gFs_at hj, gFs_at hj]
      simp [gX, hjf]
  · rw [List.getElem?_eq_none (by rw [List.length_set, gFs_len]; omega), List.getElem?_eq_none (by rw [gFs_len]; omega)]
theorem gz_putI (cx : gC G E cc nL own d) {k : gK} {index ci f : Nat} {ty : FieldType} {fin : Bool} {v : Int32} (hlk : gLp own index ci f ty fin) (hd : decode cc pc = .ok (.putfield index, 3)) (hk : k ∈ gKs G t) (hs : gSh G.1 k = .inl ci) (hr : gRf ci f = false) (hty : narrow ty (.int v) = .int v ∧ fits ty (.int v) = true) (hfin : fin = true → E.2.2.2.2.2.2.2.2.1.name = "<init>")
    (kk : gZ G E cells slots Q t (pc + 3) lv st (gI S k f v)) : gZ G E cells slots Q t pc lv (.inl v :: .inr (some k) :: st) S := by
  intro ls H locs hl hP hS
  obtain ⟨hx, hb, hml, hown, hts, hK, hfr, hlo, hsy⟩ := cx
  obtain ⟨i, hi, hg⟩ := gW_get (S := S) hk
  rw [gE_obj hs] at hg
  refine g_put (v := .int v) hx hb hlk hfin hts hown hK.1 hP.1 (gD hK.2) hS i hg hty.1 hty.2 gFs_len hd (fun H1 locs1 hP1 hz hS1 => kk ls H1 locs1 hl ⟨?_, by rw [hz]; exact hP.2⟩ hS1)
  rw [gFs_I hr, ← gE_obj hs, gW_set hK.2 hi (fun k' h' => gE_I h')] at hP1
  exact hP1
theorem gz_putR (cx : gC G E cc nL own d) {k : gK} {r : Option gK} {index ci f : Nat} {ty : FieldType} {fin : Bool} (hlk : gLp own index ci f ty fin) (hd : decode cc pc = .ok (.putfield index, 3)) (hk : k ∈ gKs G t) (hs : gSh G.1 k = .inl ci) (hr : gRf ci f = true) (hty : ∀ x : Option Nat, narrow ty (va_rf x) = va_rf x ∧ fits ty (va_rf x) = true) (hfin : fin = true → E.2.2.2.2.2.2.2.2.1.name = "<init>")
    (kk : gZ G E cells slots Q t (pc + 3) lv st (gX S k f r)) : gZ G E cells slots Q t pc lv (.inr r :: .inr (some k) :: st) S := by
  intro ls H locs hl hP hS
  obtain ⟨hx, hb, hml, hown, hts, hK, hfr, hlo, hsy⟩ := cx
  obtain ⟨i, hi, hg⟩ := gW_get (S := S) hk
  rw [gE_obj hs] at hg
  refine g_put (v := gRv G r) hx hb hlk hfin hts hown hK.1 hP.1 (gD hK.2) hS i hg (hty _).1 (hty _).2 gFs_len hd (fun H1 locs1 hP1 hz hS1 => kk ls H1 locs1 hl ⟨?_, by rw [hz]; exact hP.2⟩ hS1)
  rw [gFs_X hr, ← gE_obj hs, gW_set hK.2 hi (fun k' h' => gE_X h')] at hP1
  exact hP1
/-! arrays: an index that is a number in range -/
theorem gz_iaload (cx : gC G E cc nL own d) {k : gK} {x : Int32} {j n : Nat} (hd : decode cc pc = .ok (.iaload, 1)) (hk : k ∈ gKs G t) (hs : gSh G.1 k = .inr (0, n)) (hx : x = nI j) (hj : j < n) (hn : n < 2 ^ 31)
    (kk : gZ G E cells slots Q t (pc + 1) lv (.inl (S.1 k j) :: st) S) : gZ G E cells slots Q t pc lv (.inl x :: .inr (some k) :: st) S := by
  subst hx
  intro ls H locs hl hP hS
  obtain ⟨i, hi, hg⟩ := gW_get (S := S) hk
  rw [gE_arr hs] at hg
  have h := kk ls H locs hl hP hS
  refine va_iald cx.1 cx.2.1 cx.2.2.2.2.2.1.1 hP.1 i 0 hg (gTys_at (t := 0) gTy_0.1) (vp_in_nI hj hn) hd ?_
  rw [nI_clamp (by omega)]
  exact h
theorem gz_zaload (cx : gC G E cc nL own d) {k : gK} {x : Int32} {j n : Nat} (hd : decode cc pc = .ok (.baload, 1)) (hk : k ∈ gKs G t) (hs : gSh G.1 k = .inr (1, n)) (hx : x = nI j) (hj : j < n) (hn : n < 2 ^ 31)
    (kk : gZ G E cells slots Q t (pc + 1) lv (.inl (S.1 k j) :: st) S) : gZ G E cells slots Q t pc lv (.inl x :: .inr (some k) :: st) S := by
  subst hx
  intro ls H locs hl hP hS
  obtain ⟨i, hi, hg⟩ := gW_get (S := S) hk
  rw [gE_arr hs] at hg
  have h := kk ls H locs hl hP hS
  refine va_zald cx.1 cx.2.1 cx.2.2.2.2.2.1.1 hP.1 i 1 hg (gTys_at (t := 1) gTy_0.2.1) (vp_in_nI hj hn) hd ?_
  rw [nI_clamp (by omega)]
  exact h
theorem gz_aaload (cx : gC G E cc nL own d) {k : gK} {r : Option gK} {x : Int32} {j n ty : Nat} {C : String} (hd : decode cc pc = .ok (.aaload, 1)) (hk : k ∈ gKs G t) (hs : gSh G.1 k = .inr (ty, n)) (ht : 2 ≤ ty ∧ ty < gNt ∧ gTy ty = .object C) (hv : S.2 k j = r) (hx : x = nI j) (hj : j < n) (hn : n < 2 ^ 31)
    (kk : gZ G E cells slots Q t (pc + 1) lv (.inr r :: st) S) : gZ G E cells slots Q t pc lv (.inl x :: .inr (some k) :: st) S := by
  subst hx; subst hv
  intro ls H locs hl hP hS
  obtain ⟨i, hi, hg⟩ := gW_get (S := S) hk
  rw [gE_arr hs, gAr, if_neg (by omega)] at hg
  have h := kk ls H locs hl hP hS
  have hty := gTys_at (G := G) ht.2.1
  rw [ht.2.2] at hty
  refine va_aldq cx.1 cx.2.1 cx.2.2.2.2.2.1.1 hP.1 i ty hg hty (vp_in_nI hj hn) hd ?_
  rw [nI_clamp (by omega)]
  exact h
theorem gAr_I {k : gK} {ty j : Nat} {v : Int32} (h : ty < 2) : gAr G (gI S k j v) k ty = .inl (upd (S.1 k) j v) := by
  rw [gAr, if_pos h]
  congr 1
  funext q
  simp [gI, upd]
theorem gz_iastore (cx : gC G E cc nL own d) {k : gK} {x v : Int32} {j n : Nat} (hd : decode cc pc = .ok (.iastore, 1)) (hk : k ∈ gKs G t) (hs : gSh G.1 k = .inr (0, n)) (hx : x = nI j) (hj : j < n) (hn : n < 2 ^ 31)
    (kk : gZ G E cells slots Q t (pc + 1) lv st (gI S k j v)) : gZ G E cells slots Q t pc lv (.inl v :: .inl x :: .inr (some k) :: st) S := by
  subst hx
  intro ls H locs hl hP hS
  obtain ⟨hx, hb, hml, hown, hts, hK, hfr, hlo, hsy⟩ := cx
  obtain ⟨i, hi, hg⟩ := gW_get (S := S) hk
  rw [gE_arr hs] at hg
  refine g_iast hx hb hK.1 hP.1 (gD hK.2) hS i 0 hg (gTys_at (t := 0) gTy_0.1) (vp_in_nI hj hn) hd (fun H1 locs1 hP1 hz hS1 => kk ls H1 locs1 hl ⟨?_, by rw [hz]; exact hP.2⟩ hS1)
  rw [nI_clamp (by omega), ← gAr_I (G := G) (S := S) (ty := 0) (by omega), ← gE_arr hs, gW_set hK.2 hi (fun k' h' => gE_I h')] at hP1
  exact hP1
theorem gz_zastore (cx : gC G E cc nL own d) {k : gK} {x v : Int32} {j n : Nat} (hd : decode cc pc = .ok (.bastore, 1)) (hk : k ∈ gKs G t) (hs : gSh G.1 k = .inr (1, n)) (hz : narrow .boolean (.int v) = .int v) (hx : x = nI j) (hj : j < n) (hn : n < 2 ^ 31)
    (kk : gZ G E cells slots Q t (pc + 1) lv st (gI S k j v)) : gZ G E cells slots Q t pc lv (.inl v :: .inl x :: .inr (some k) :: st) S := by
  subst hx
  intro ls H locs hl hP hS
  obtain ⟨hx, hb, hml, hown, hts, hK, hfr, hlo, hsy⟩ := cx
  obtain ⟨i, hi, hg⟩ := gW_get (S := S) hk
  rw [gE_arr hs] at hg
  refine g_zast hx hb hK.1 hP.1 (gD hK.2) hS i 1 hg (gTys_at (t := 1) gTy_0.2.1) hz (vp_in_nI hj hn) hd (fun H1 locs1 hP1 hz hS1 => kk ls H1 locs1 hl ⟨?_, by rw [hz]; exact hP.2⟩ hS1)
  rw [nI_clamp (by omega), ← gAr_I (G := G) (S := S) (ty := 1) (by omega), ← gE_arr hs, gW_set hK.2 hi (fun k' h' => gE_I h')] at hP1
  exact hP1
theorem gAr_X {k k2 : gK} {ty j : Nat} (h : 2 ≤ ty) : gAr G (gX S k j (some k2)) k ty = .inr (.inr (.inr (.inr (va_up (fun j => (S.2 k j).map (gAd G)) j (some (gAd G k2)))))) := by
  rw [gAr, if_neg (by omega)]
  congr 4
  funext q
  by_cases h : q = j <;> simp [gX, va_up, h]
theorem gz_aastore (cx : gC G E cc nL own d) {k k2 : gK} {x : Int32} {j n ty ci : Nat} {C : String} {T : u_T} {N : Nat} (hd : decode cc pc = .ok (.aastore, 1)) (hk : k ∈ gKs G t) (hk2 : k2 ∈ gKs G t) (hs : gSh G.1 k = .inr (ty, n)) (hs2 : gSh G.1 k2 = .inl ci) (ht : 2 ≤ ty ∧ ty < gNt ∧ gTy ty = .object C) (hc : gCl[ci]? = some (C, T, N)) (hx : x = nI j) (hj : j < n) (hn : n < 2 ^ 31)
    (kk : gZ G E cells slots Q t (pc + 1) lv st (gX S k j (some k2))) : gZ G E cells slots Q t pc lv (.inr (some k2) :: .inl x :: .inr (some k) :: st) S := by
  subst hx
  intro ls H locs hl hP hS
  obtain ⟨hx, hb, hml, hown, hts, hK, hfr, hlo, hsy⟩ := cx
  obtain ⟨i, hi, hg⟩ := gW_get (S := S) hk
  obtain ⟨i2, hi2, hg2⟩ := gW_get (S := S) hk2
  rw [gE_arr hs, gAr, if_neg (by omega)] at hg
  rw [gE_obj hs2] at hg2
  have hty := gTys_at (G := G) ht.2.1
  rw [ht.2.2] at hty
  refine g_aast hx hb hK.1 hP.1 (gD hK.2) hS i ty i2 ci hg hty hg2 hc (vp_in_nI hj hn) hd (fun H1 locs1 hP1 hz hS1 => kk ls H1 locs1 hl ⟨?_, by rw [hz]; exact hP.2⟩ hS1)
  rw [nI_clamp (by omega), ← gAr_X (G := G) (S := S) (ty := ty) (by omega), ← gE_arr hs, gW_set hK.2 hi (fun k' h' => gE_X h')] at hP1
  exact hP1
theorem gz_alen (cx : gC G E cc nL own d) {k : gK} {n ty : Nat} (hd : decode cc pc = .ok (.arraylength, 1)) (hk : k ∈ gKs G t) (hs : gSh G.1 k = .inr (ty, n)) (ht : ty < gNt)
    (kk : gZ G E cells slots Q t (pc + 1) lv (.inl (nI n) :: st) S) : gZ G E cells slots Q t pc lv (.inr (some k) :: st) S := by
  intro ls H locs hl hP hS
  obtain ⟨i, hi, hg⟩ := gW_get (S := S) hk
  rw [gE_arr hs] at hg
  exact va_alen (v := nI n) cx.1 cx.2.1 cx.2.2.2.2.2.1.1 hP.1 i ty hg (gTys_at ht) rfl hd (kk ls H locs hl hP hS)
/-! ends -/
theorem gz_ireturn (cx : gC G E cc nL own d) {Rt : Option gV → gS → Prop} {v : Int32} {ty : FieldType} (hr : E.2.2.2.2.2.2.2.2.1.sig.returnType = some ty) (hn : narrow ty (.int v) = .int v) (hd : decode cc pc = .ok (.ireturn, 1)) (hq : Rt (some (.inl v)) S) : gZ G E cells slots (gEnd G E cells slots t Rt) t pc lv [.inl v] S := by
  intro ls H locs hl hP hS
  obtain ⟨hx, hb, hml, hown, hts, hK, hfr, hlo, hsy⟩ := cx
  exact W.zret hx hb hr hn (fun u hu _ => ⟨⟨some (.inl v), S, rfl, hq, by rw [hu]; exact hP⟩, hS.F hu⟩) hS.2.2 hd hsy
theorem gz_return (cx : gC G E cc nL own d) {Rt : Option gV → gS → Prop} (hr : E.2.2.2.2.2.2.2.2.1.sig.returnType = none) (hd : decode cc pc = .ok (.return_, 1)) (hq : Rt none S) : gZ G E cells slots (gEnd G E cells slots t Rt) t pc lv [] S := by
  intro ls H locs hl hP hS
  obtain ⟨hx, hb, hml, hown, hts, hK, hfr, hlo, hsy⟩ := cx
  exact W.vret hx hb hr (fun u hu _ => ⟨⟨none, S, rfl, hq, by rw [hu]; exact hP⟩, hS.F hu⟩) hS.2.2 hd hsy
theorem gz_areturn (cx : gC G E cc nL own d) {Rt : Option gV → gS → Prop} {r : Option gK} {C : String} (hr : E.2.2.2.2.2.2.2.2.1.sig.returnType = some (.object C)) (hd : decode cc pc = .ok (.areturn, 1)) (hq : Rt (some (.inr r)) S) : gZ G E cells slots (gEnd G E cells slots t Rt) t pc lv [.inr r] S := by
  intro ls H locs hl hP hS
  obtain ⟨hx, hb, hml, hown, hts, hK, hfr, hlo, hsy⟩ := cx
  exact W.aret (v := gRv G r) hx hb hr (Or.inl ⟨_, rfl⟩) (by cases r with | none => exact Or.inl rfl | some k => exact Or.inr ⟨_, rfl⟩) (fun u hu _ => ⟨⟨some (.inr r), S, rfl, hq, by rw [hu]; exact hP⟩, hS.F hu⟩) hS.2.2 hd hsy
end GZ
/-! calls -/
theorem g_callW {G : gG} {p : Program} {l : Launch} {e : Env} {R : Room} {s : State} {m : MethodId} {args : Array Value} {below : List Frame} {meth : Method} {c : Code} {H : Heap} {locs : List Loc} {cells slots mc ms pc t' : Nat} {Q : State → Prop} {ls : Array Slot} {st0 rest : List Value} {a : Array Value} {Rt : Option gV → gS → Prop}
    (hr : va_Run p l e R s m args below meth c H locs cells slots mc ms (F0 m pc ls st0) rest (gQ G t' Rt a) (gA G)) (hS : va_S (gA G) s.heap H locs)
    (kk : ∀ (v : Option gV) (S' : gS) (H1 : Heap) (locs1 : List Loc), Rt v S' → gP G t' S' H1 → va_S (gA G) s.heap H1 locs1 → W p l e R s m args below meth c H1 locs1 (cells + mc) (slots + ms) Q (F0 m (pc + 3) ls ((v.map (gc G)).toList ++ rest))) :
    W p l e R s m args below meth c H locs cells slots Q (F0 m pc ls st0) := by
  intro T hT X
  obtain ⟨v, st₀, u, T', L, h0, X', hL, e1, e2, ⟨⟨v', S', hv, hp, hb⟩, hz, hk⟩, st⟩ := hr T hT X
  cases hv
  rw [h0] at hz hk
  obtain ⟨t2, a1, b1⟩ := kk v' S' T'.heap (locs ++ L) hp (by rw [e1]; exact hb)
    ⟨Nat.le_trans hS.1 (by rw [e1]; exact hz), fun q h1 h2 => by rw [e1, hk q (Nat.lt_of_lt_of_le h1 hS.1) h2]; exact hS.2.1 q h1 h2, fun q hq => by
      rcases List.mem_append.mp hq with h | h
      · exact hS.2.2 q h
      · exact hL q h⟩ T' rfl X'
  exact ⟨t2, st t2 a1, b1⟩
theorem g_blind (G : gG) (t : Nat) (av : List gV) (S : gS) : FrameBlind (gPc G t av S) := fun a U g mk h => ⟨h.1, h.2.1, gKn.moved (u := U) (U := U.calling g mk a) (Vm.Alike.refl U.vm) h.2.2⟩
theorem g_cats (G : gG) (st : List gV) : ((st.map (gc G)).map fun v => v.category).sum = st.length := by
  induction st with
  | nil => rfl
  | cons a l ih => simp only [List.map_cons, List.sum_cons, gc_cat, ih, List.length_cons]; omega
/-- what a call rests on -/
def gLv (own : String) (index : Nat) (y : MethodName) (ws : List Cond) (n : Nat) : Prop := ∃ (bytes : ByteArray) (maxL : Nat) (ret : Option FieldType), ws = Cond.code y bytes maxL ret :: gTb ∧ Cond.code y bytes maxL ret ∈ gTb ∧ Cond.methodLink own index y ∈ gTb ∧ Cond.instanceMethod y ∈ gTb ∧ Cond.selects y.cls y y ∈ gTb ∧ Cond.initialized y.cls ∈ gTb ∧
  (y.cls ≠ "java/lang/invoke/MethodHandle" ∧ y.cls ≠ "java/lang/invoke/VarHandle" ∧ (parseMethodDescriptor y.desc).map (fun d => d.parameters.length) = some n) ∧ maxL ≤ 21
def gLs (own : String) (index : Nat) (y : MethodName) (ws : List Cond) (n : Nat) : Prop := ∃ (bytes : ByteArray) (maxL : Nat) (ret : Option FieldType), ws = Cond.code y bytes maxL ret :: gTb ∧ Cond.code y bytes maxL ret ∈ gTb ∧ Cond.methodLink own index y ∈ gTb ∧ Cond.static y ∈ gTb ∧ Cond.initialized y.cls ∈ gTb ∧
  (y.cls ≠ "java/lang/invoke/MethodHandle" ∧ y.cls ≠ "java/lang/invoke/VarHandle" ∧ (parseMethodDescriptor y.desc).map (fun d => d.parameters.length) = some n) ∧ maxL ≤ 21
def gLi (own : String) (index : Nat) (y : MethodName) (ws : List Cond) (n : Nat) : Prop := ∃ (bytes : ByteArray) (maxL : Nat), ws = Cond.code y bytes maxL none :: gTb ∧ Cond.code y bytes maxL none ∈ gTb ∧ Cond.methodLink own index y ∈ gTb ∧ Cond.instanceMethod y ∈ gTb ∧ Cond.initialized y.cls ∈ gTb ∧ y.name = "<init>" ∧
  (y.cls ≠ "java/lang/invoke/MethodHandle" ∧ y.cls ≠ "java/lang/invoke/VarHandle" ∧ (parseMethodDescriptor y.desc).map (fun d => d.parameters.length) = some n) ∧ maxL ≤ 21
theorem gGood {y : MethodName} {bytes : ByteArray} {maxL : Nat} {ret : Option FieldType} (h : Cond.code y bytes maxL ret ∈ gTb) : GoodIn gTb (Cond.code y bytes maxL ret :: gTb) := fun w hw => by
  rcases List.mem_cons.mp hw with rfl | hw
  · exact ⟨h, good_of_word (gTb_good _ h)⟩
  · exact ⟨hw, good_of_word (gTb_good _ hw)⟩
section GZC
variable {G : gG} {E : gEnv} {cells slots : Nat} {Q : State → Prop} {t pc : Nat} {lv : List (Option gV)} {st : List gV} {S : gS} {cc : ByteArray} {nL : Nat} {own : String} {d : Nat}
theorem gz_callV (cx : gC G E cc nL own d) {y : MethodName} {ws : List Cond} {d' mc ms t' n index ci : Nat} {b : gK} {As st0 : List gV} {T : u_T} {N : Nat} {Rt : Option gV → gS → Prop} (hlv : gLv own index y ws n) (hd : decode cc pc = .ok (.invokevirtual index, 3)) (hM : gM G E.2.1 y ws d' mc ms t t' (.inr (some b) :: As) S Rt) (hdd : d' < d) (hn : As.length = n) (hb : b ∈ gKs G t) (hs : gSh G.1 b = .inl ci) (hc : gCl[ci]? = some (y.cls, T, N)) (hst : st0 = As.reverse ++ .inr (some b) :: st) (hnl : lv.length = nL) (hsl : st.length ≤ 8) (hf : cells + mc ≤ E.2.2.2.1.cells ∧ slots + ms ≤ E.2.2.2.1.slots)
    (kk : ∀ (v : Option gV) (S' : gS), Rt v S' → gZ G E (cells + mc) (slots + ms) Q t' (pc + 3) lv (v.toList ++ st) S') : gZ G E cells slots Q t pc lv st0 S := by
  subst hst
  intro ls H locs hl hP hS
  obtain ⟨bytes, maxL, ret, hw, hcd, hml2, hins, hsel, hini, hy, hm⟩ := hlv
  subst hw
  have hG := gGood hcd
  obtain ⟨hx, hcb, hml, hown, hts, hK, hfr, hlo, hsy⟩ := cx
  obtain ⟨i, hi, hg⟩ := gW_get (S := S) hb
  rw [gE_obj hs] at hg
  refine g_callW (va_runV (As := As.map (gc G)) (rest := st.map (gc G)) (nL := nL) ⟨hx, hcb, hml, hown, hts⟩ hM ⟨callB_of n hts hG rfl rfl rfl (hts _ hini) (hts _ hml2) hy ⟨by show d' + 1 ≤ _; omega, by show 8 + (maxL + 11) + 40 * d' ≤ _; omega⟩, hts _ hins, hts _ hsel⟩ ⟨g_blind G t _ S, va_recv hK.1 hP.1 hc hg, fun U hU hW => ⟨rfl, by rw [hU]; exact hP, hK.moved hW.alike⟩⟩ rfl (by rw [List.length_map]; exact hn) (by rw [← hnl]; exact hl.1) (by show List.map (gc G) _ = _; rw [List.map_append, List.map_reverse]; rfl) (lv_room (by rw [g_cats]; exact hsl)) hd hf) hS (fun v S' H1 locs1 hR hP1 hS1 => ?_)
  have h := kk v S' hR ls H1 locs1 hl hP1 hS1
  rw [List.map_append] at h
  cases v <;> exact h
theorem gz_callS (cx : gC G E cc nL own d) {y : MethodName} {ws : List Cond} {d' mc ms t' n index : Nat} {As st0 : List gV} {Rt : Option gV → gS → Prop} (hlv : gLs own index y ws n) (hd : decode cc pc = .ok (.invokestatic index, 3)) (hM : gM G E.2.1 y ws d' mc ms t t' As S Rt) (hdd : d' < d) (hn : As.length = n) (hst : st0 = As.reverse ++ st) (hnl : lv.length = nL) (hsl : st.length ≤ 8) (hf : cells + mc ≤ E.2.2.2.1.cells ∧ slots + ms ≤ E.2.2.2.1.slots)
    (kk : ∀ (v : Option gV) (S' : gS), Rt v S' → gZ G E (cells + mc) (slots + ms) Q t' (pc + 3) lv (v.toList ++ st) S') : gZ G E cells slots Q t pc lv st0 S := by
  subst hst
  intro ls H locs hl hP hS
  obtain ⟨bytes, maxL, ret, hw, hcd, hml2, hins, hini, hy, hm⟩ := hlv
  subst hw
  have hG := gGood hcd
  obtain ⟨hx, hcb, hml, hown, hts, hK, hfr, hlo, hsy⟩ := cx
  refine g_callW (va_runS (As := As.map (gc G)) (rest := st.map (gc G)) (nL := nL) ⟨hx, hcb, hml, hown, hts⟩ hM ⟨callB_of n hts hG rfl rfl rfl (hts _ hini) (hts _ hml2) hy ⟨by show d' + 1 ≤ _; omega, by show 8 + (maxL + 11) + 40 * d' ≤ _; omega⟩, hts _ hins⟩ ⟨g_blind G t _ S, fun U hU hW => ⟨rfl, by rw [hU]; exact hP, hK.moved hW.alike⟩⟩ rfl (by rw [List.length_map]; exact hn) (by rw [← hnl]; exact hl.1) (by show List.map (gc G) _ = _; rw [List.map_append, List.map_reverse]) (lv_room (by rw [g_cats]; exact hsl)) hd hf) hS (fun v S' H1 locs1 hR hP1 hS1 => ?_)
  have h := kk v S' hR ls H1 locs1 hl hP1 hS1
  rw [List.map_append] at h
  cases v <;> exact h
theorem gz_max (cx : gC G E cc nL own d) {index : Nat} {x y : Int32} (hl1 : Cond.methodLink own index Lib.Math.max.name ∈ gTb) (hl2 : Cond.static Lib.Math.max.name ∈ gTb) (hl3 : Cond.initialized "java/lang/Math" ∈ gTb) (hl4 : Cond.code Lib.Math.max.name Lib.Math.max.code 2 (some .int) ∈ gTb) (hd : decode cc pc = .ok (.invokestatic index, 3)) (hdd : 1 ≤ d) (hnl : lv.length = nL) (hsl : st.length ≤ 8) (hf : cells ≤ E.2.2.2.1.cells ∧ slots ≤ E.2.2.2.1.slots)
    (kk : gZ G E cells slots Q t (pc + 3) lv (.inl (if x < y then y else x) :: st) S) : gZ G E cells slots Q t pc lv (.inl y :: .inl x :: st) S := by
  intro ls H locs hl hP hS
  obtain ⟨hx, hcb, hml, hown, hts, hK, hfr, hlo, hsy⟩ := cx
  exact va_mmax (rest := st.map (gc G)) hx hcb (by rw [hml, ← hnl]; exact hl.1.symm) hown (hts _ hl1) (hts _ hl2) (hts _ hl3) (hts _ hl4) (by omega) (by rw [g_cats]; omega) hf.1 hf.2 hd (kk ls H locs hl hP hS)
theorem gz_min (cx : gC G E cc nL own d) {index : Nat} {x y : Int32} (hl1 : Cond.methodLink own index Lib.Math.min.name ∈ gTb) (hl2 : Cond.static Lib.Math.min.name ∈ gTb) (hl3 : Cond.initialized "java/lang/Math" ∈ gTb) (hl4 : Cond.code Lib.Math.min.name Lib.Math.min.code 2 (some .int) ∈ gTb) (hd : decode cc pc = .ok (.invokestatic index, 3)) (hdd : 1 ≤ d) (hnl : lv.length = nL) (hsl : st.length ≤ 8) (hf : cells ≤ E.2.2.2.1.cells ∧ slots ≤ E.2.2.2.1.slots)
    (kk : gZ G E cells slots Q t (pc + 3) lv (.inl (if y < x then y else x) :: st) S) : gZ G E cells slots Q t pc lv (.inl y :: .inl x :: st) S := by
  intro ls H locs hl hP hS
  obtain ⟨hx, hcb, hml, hown, hts, hK, hfr, hlo, hsy⟩ := cx
  exact va_mmin (rest := st.map (gc G)) hx hcb (by rw [hml, ← hnl]; exact hl.1.symm) hown (hts _ hl1) (hts _ hl2) (hts _ hl3) (hts _ hl4) (by omega) (by rw [g_cats]; omega) hf.1 hf.2 hd (kk ls H locs hl hP hS)
theorem gz_ldcw (cx : gC G E cc nL own d) {index : Nat} {v : Int32} (hc : Cond.constant own index v ∈ gTb) (hd : decode cc pc = .ok (.ldc_w index, 3)) (k : gZ G E cells slots Q t (pc + 3) lv (.inl v :: st) S) : gZ G E cells slots Q t pc lv st S := by
  intro ls H locs hl hP hS
  obtain ⟨hx, hcb, hml, hown, hts, hK, hfr, hlo, hsy⟩ := cx
  exact lv_ldcw hx hcb hown (hts _ hc) hd (k ls H locs hl hP hS)
end GZC
/-! a contract out of a walk -/
theorem g_args (G : gG) : ∀ (av : List gV) (i0 i : Nat) (v : gV), av[i]? = some v → (i0 + i, gc G v) ∈ lv_args i0 (av.map (gc G))
  | [], _, i, v, h => by simp at h
  | a :: av, i0, 0, v, h => by
    simp at h; subst h
    simp [lv_args]
  | a :: av, i0, i + 1, v, h => by
    have h2 := g_args G av (i0 + 1) i v (by simpa using h)
    have e : i0 + 1 + i = i0 + (i + 1) := by omega
    rw [e] at h2
    simp only [List.map_cons, lv_args, gc_cat]
    exact List.mem_cons_of_mem _ h2
theorem g_slots (G : gG) (av : List gV) : (lg_sl (av.map (gc G))).length = av.length := by
  induction av with
  | nil => rfl
  | cons a l ih =>
    simp only [lg_sl, List.map_cons, List.flatMap_cons, gc_cat] at ih ⊢
    simp only [List.length_append, List.length_cons] at ih ⊢
    simp at ih ⊢
    omega
theorem g_entry {G : gG} {av : List gV} {n : Nat} (h : av.length ≤ n) : gL G ((lg_sl (av.map (gc G)) ++ List.replicate (n - (lg_sl (av.map (gc G))).length) Slot.unset).toArray) (av.map some ++ List.replicate (n - av.length) none) := by
  obtain ⟨h1, h2, h3⟩ := lv_entry (av.map (gc G)) (n := n) (by rw [g_slots]; exact h)
  refine ⟨by rw [h1]; simp; omega, h2, fun i v hv => ?_⟩
  have hi : av[i]? = some v := by
    by_cases hl : i < av.length
    · rw [List.getElem?_append_left (by simpa using hl), List.getElem?_map] at hv
      cases ha : av[i]? with
      | none => rw [ha] at hv; cases hv
      | some w => rw [ha] at hv; cases hv; rfl
    · rw [List.getElem?_append_right (by simpa using hl), List.getElem?_replicate] at hv
      split at hv <;> cases hv
  have := h3 _ (g_args G av 0 i v hi)
  simpa using this
theorem gM_of {G : gG} {l : Launch} {y : MethodName} {ws : List Cond} {d mc ms t t' : Nat} {av : List gV} {S : gS} {Rt : Option gV → gS → Prop} {cc : ByteArray} {maxL : Nat} {ret : Option FieldType} (hy : plainName y.cls = true) (hw : ws = Cond.code y cc maxL ret :: gTb) (hL : av.length ≤ maxL)
    (body : ∀ E : gEnv, gC G E cc maxL y.cls d → E.2.2.2.2.2.2.2.2.1.sig.returnType = ret → E.2.2.2.2.2.2.2.2.1.name = y.name → E.2.2.2.1.cells = mc → E.2.2.2.1.slots = ms → E.2.1 = l → gZ G E 0 0 (gEnd G E mc ms t' Rt) t 0 (av.map some ++ List.replicate (maxL - av.length) none) [] S) : gM G l y ws d mc ms t t' av S Rt := by
  refine Met.ofW (cc := cc) (maxL := maxL) (ret := ret) hy hw ?_
  intro p e s m args below meth c s₁ B hml hv
  obtain ⟨rfl, hP, hK⟩ := hv
  have hb := body (p, l, e, (headSpec ws { frames := d, cells := mc, slots := ms, locals := 40 * d }).room, s, m, _, below, meth, c) ⟨B.exec, B.bytes, hml, findClass_of_methodNamed B.named, (fun w h => atoms_spec (ws := ws) B.pre w (by rw [hw]; exact List.mem_cons_of_mem _ h)), hK, Nat.le_refl _, Nat.le_refl _, B.notSynchronized⟩ B.returns (name_of_methodNamed B.named B.method).1 rfl rfl rfl
  rw [lg_entry_eq]
  exact hb _ s.heap [] (g_entry hL) hP va_S.rf
end
section
/-! what each constant pool number links to (written by gen/names.py) -/
theorem qf_G_18 : gLk "GossipNodes" 18 5 0 := ⟨qR_G, qT_G, 5, rfl, rfl, by decide, qu_G, (gTb_1 (i := 211) (by rfl) rfl)⟩
theorem qp_G_18 : gLp "GossipNodes" 18 5 0 (.int) true := ⟨qR_G, qT_G, 5, qt_G, rfl, rfl, by decide, qu_G, (gTb_1 (i := 211) (by rfl) rfl), qk_G, qn_G, rfl, rfl, fun _ => rfl⟩
theorem qf_G_25 : gLk "GossipNodes" 25 5 3 := ⟨qR_G, qT_G, 5, rfl, rfl, by decide, qu_G, (gTb_1 (i := 214) (by rfl) rfl)⟩
theorem qp_G_25 : gLp "GossipNodes" 25 5 3 (.object "GossipNodes$Flight") true := ⟨qR_G, qT_G, 5, qt_G, rfl, rfl, by decide, qu_G, (gTb_1 (i := 214) (by rfl) rfl), qk_G, qn_G, rfl, rfl, fun _ => rfl⟩
theorem qf_G_29 : gLk "GossipNodes" 29 5 2 := ⟨qR_G, qT_G, 5, rfl, rfl, by decide, qu_G, (gTb_1 (i := 213) (by rfl) rfl)⟩
theorem qp_G_29 : gLp "GossipNodes" 29 5 2 (.array (.int)) true := ⟨qR_G, qT_G, 5, qt_G, rfl, rfl, by decide, qu_G, (gTb_1 (i := 213) (by rfl) rfl), qk_G, qn_G, rfl, rfl, fun _ => rfl⟩
theorem qf_G_35 : gLk "GossipNodes" 35 5 1 := ⟨qR_G, qT_G, 5, rfl, rfl, by decide, qu_G, (gTb_1 (i := 212) (by rfl) rfl)⟩
theorem qp_G_35 : gLp "GossipNodes" 35 5 1 (.array (.object "GossipNodes$Node")) true := ⟨qR_G, qT_G, 5, qt_G, rfl, rfl, by decide, qu_G, (gTb_1 (i := 212) (by rfl) rfl), qk_G, qn_G, rfl, rfl, fun _ => rfl⟩
theorem qf_G_42 : gLk "GossipNodes" 42 5 4 := ⟨qR_G, qT_G, 5, rfl, rfl, by decide, qu_G, (gTb_1 (i := 215) (by rfl) rfl)⟩
theorem qp_G_42 : gLp "GossipNodes" 42 5 4 (.int) false := ⟨qR_G, qT_G, 5, qt_G, rfl, rfl, by decide, qu_G, (gTb_1 (i := 215) (by rfl) rfl), qk_G, qn_G, rfl, rfl, fun _ => rfl⟩
theorem qf_G_49 : gLk "GossipNodes" 49 3 5 := ⟨qR_N, qT_N, 18, rfl, rfl, by decide, qu_N, (gTb_1 (i := 160) (by rfl) rfl)⟩
theorem qp_G_49 : gLp "GossipNodes" 49 3 5 (.boolean) false := ⟨qR_N, qT_N, 18, qt_N, rfl, rfl, by decide, qu_N, (gTb_1 (i := 160) (by rfl) rfl), qk_N, qn_N, rfl, rfl, fun h => nomatch h⟩
theorem qf_G_84 : gLk "GossipNodes" 84 1 3 := ⟨qR_F, qT_F, 4, rfl, rfl, by decide, qu_F, (gTb_1 (i := 81) (by rfl) rfl)⟩
theorem qp_G_84 : gLp "GossipNodes" 84 1 3 (.int) false := ⟨qR_F, qT_F, 4, qt_F, rfl, rfl, by decide, qu_F, (gTb_1 (i := 81) (by rfl) rfl), qk_F, qn_F, rfl, rfl, fun h => nomatch h⟩
theorem qf_G_87 : gLk "GossipNodes" 87 1 0 := ⟨qR_F, qT_F, 4, rfl, rfl, by decide, qu_F, (gTb_1 (i := 76) (by rfl) rfl)⟩
theorem qp_G_87 : gLp "GossipNodes" 87 1 0 (.array (.object "GossipNodes$Message")) false := ⟨qR_F, qT_F, 4, qt_F, rfl, rfl, by decide, qu_F, (gTb_1 (i := 76) (by rfl) rfl), qk_F, qn_F, rfl, rfl, fun h => nomatch h⟩
theorem qf_G_97 : gLk "GossipNodes" 97 3 3 := ⟨qR_N, qT_N, 18, rfl, rfl, by decide, qu_N, (gTb_1 (i := 158) (by rfl) rfl)⟩
theorem qf_G_105 : gLk "GossipNodes" 105 0 4 := ⟨qR_E, qT_E, 5, rfl, rfl, by decide, qu_E, (gTb_1 (i := 121) (by rfl) rfl)⟩
theorem qp_G_105 : gLp "GossipNodes" 105 0 4 (.int) false := ⟨qR_E, qT_E, 5, qt_E, rfl, rfl, by decide, qu_E, (gTb_1 (i := 121) (by rfl) rfl), qk_E, qn_E, rfl, rfl, fun h => nomatch h⟩
theorem qf_G_115 : gLk "GossipNodes" 115 1 1 := ⟨qR_F, qT_F, 4, rfl, rfl, by decide, qu_F, (gTb_1 (i := 78) (by rfl) rfl)⟩
theorem qp_G_115 : gLp "GossipNodes" 115 1 1 (.array (.object "GossipNodes$Message")) false := ⟨qR_F, qT_F, 4, qt_F, rfl, rfl, by decide, qu_F, (gTb_1 (i := 78) (by rfl) rfl), qk_F, qn_F, rfl, rfl, fun h => nomatch h⟩
theorem qf_G_118 : gLk "GossipNodes" 118 2 2 := ⟨qR_M, qT_M, 8, rfl, rfl, by decide, qu_M, (gTb_1 (i := 43) (by rfl) rfl)⟩
theorem qp_G_118 : gLp "GossipNodes" 118 2 2 (.int) false := ⟨qR_M, qT_M, 8, qt_M, rfl, rfl, by decide, qu_M, (gTb_1 (i := 43) (by rfl) rfl), qk_M, qn_M, rfl, rfl, fun h => nomatch h⟩
theorem qf_G_121 : gLk "GossipNodes" 121 2 1 := ⟨qR_M, qT_M, 8, rfl, rfl, by decide, qu_M, (gTb_1 (i := 41) (by rfl) rfl)⟩
theorem qp_G_121 : gLp "GossipNodes" 121 2 1 (.int) false := ⟨qR_M, qT_M, 8, qt_M, rfl, rfl, by decide, qu_M, (gTb_1 (i := 41) (by rfl) rfl), qk_M, qn_M, rfl, rfl, fun h => nomatch h⟩
theorem qf_G_128 : gLk "GossipNodes" 128 0 0 := ⟨qR_E, qT_E, 5, rfl, rfl, by decide, qu_E, (gTb_1 (i := 110) (by rfl) rfl)⟩
theorem qp_G_128 : gLp "GossipNodes" 128 0 0 (.int) false := ⟨qR_E, qT_E, 5, qt_E, rfl, rfl, by decide, qu_E, (gTb_1 (i := 110) (by rfl) rfl), qk_E, qn_E, rfl, rfl, fun h => nomatch h⟩
theorem qf_G_131 : gLk "GossipNodes" 131 0 1 := ⟨qR_E, qT_E, 5, rfl, rfl, by decide, qu_E, (gTb_1 (i := 114) (by rfl) rfl)⟩
theorem qp_G_131 : gLp "GossipNodes" 131 0 1 (.int) false := ⟨qR_E, qT_E, 5, qt_E, rfl, rfl, by decide, qu_E, (gTb_1 (i := 114) (by rfl) rfl), qk_E, qn_E, rfl, rfl, fun h => nomatch h⟩
theorem qf_E_9 : gLk "GossipNodes$Entry" 9 0 0 := ⟨qR_E, qT_E, 5, rfl, rfl, by decide, qu_E, (gTb_1 (i := 107) (by rfl) rfl)⟩
theorem qp_E_9 : gLp "GossipNodes$Entry" 9 0 0 (.int) false := ⟨qR_E, qT_E, 5, qt_E, rfl, rfl, by decide, qu_E, (gTb_1 (i := 107) (by rfl) rfl), qk_E, qn_E, rfl, rfl, fun _ => rfl⟩
theorem qf_E_15 : gLk "GossipNodes$Entry" 15 0 1 := ⟨qR_E, qT_E, 5, rfl, rfl, by decide, qu_E, (gTb_1 (i := 111) (by rfl) rfl)⟩
theorem qp_E_15 : gLp "GossipNodes$Entry" 15 0 1 (.int) false := ⟨qR_E, qT_E, 5, qt_E, rfl, rfl, by decide, qu_E, (gTb_1 (i := 111) (by rfl) rfl), qk_E, qn_E, rfl, rfl, fun _ => rfl⟩
theorem qf_E_18 : gLk "GossipNodes$Entry" 18 0 2 := ⟨qR_E, qT_E, 5, rfl, rfl, by decide, qu_E, (gTb_1 (i := 115) (by rfl) rfl)⟩
theorem qp_E_18 : gLp "GossipNodes$Entry" 18 0 2 (.int) false := ⟨qR_E, qT_E, 5, qt_E, rfl, rfl, by decide, qu_E, (gTb_1 (i := 115) (by rfl) rfl), qk_E, qn_E, rfl, rfl, fun _ => rfl⟩
theorem qf_E_21 : gLk "GossipNodes$Entry" 21 0 3 := ⟨qR_E, qT_E, 5, rfl, rfl, by decide, qu_E, (gTb_1 (i := 117) (by rfl) rfl)⟩
theorem qp_E_21 : gLp "GossipNodes$Entry" 21 0 3 (.int) false := ⟨qR_E, qT_E, 5, qt_E, rfl, rfl, by decide, qu_E, (gTb_1 (i := 117) (by rfl) rfl), qk_E, qn_E, rfl, rfl, fun _ => rfl⟩
theorem qf_E_24 : gLk "GossipNodes$Entry" 24 0 4 := ⟨qR_E, qT_E, 5, rfl, rfl, by decide, qu_E, (gTb_1 (i := 119) (by rfl) rfl)⟩
theorem qp_E_24 : gLp "GossipNodes$Entry" 24 0 4 (.int) false := ⟨qR_E, qT_E, 5, qt_E, rfl, rfl, by decide, qu_E, (gTb_1 (i := 119) (by rfl) rfl), qk_E, qn_E, rfl, rfl, fun _ => rfl⟩
theorem qf_F_11 : gLk "GossipNodes$Flight" 11 1 0 := ⟨qR_F, qT_F, 4, rfl, rfl, by decide, qu_F, (gTb_1 (i := 75) (by rfl) rfl)⟩
theorem qp_F_11 : gLp "GossipNodes$Flight" 11 1 0 (.array (.object "GossipNodes$Message")) false := ⟨qR_F, qT_F, 4, qt_F, rfl, rfl, by decide, qu_F, (gTb_1 (i := 75) (by rfl) rfl), qk_F, qn_F, rfl, rfl, fun _ => rfl⟩
theorem qf_F_15 : gLk "GossipNodes$Flight" 15 1 1 := ⟨qR_F, qT_F, 4, rfl, rfl, by decide, qu_F, (gTb_1 (i := 77) (by rfl) rfl)⟩
theorem qp_F_15 : gLp "GossipNodes$Flight" 15 1 1 (.array (.object "GossipNodes$Message")) false := ⟨qR_F, qT_F, 4, qt_F, rfl, rfl, by decide, qu_F, (gTb_1 (i := 77) (by rfl) rfl), qk_F, qn_F, rfl, rfl, fun _ => rfl⟩
theorem qf_F_19 : gLk "GossipNodes$Flight" 19 1 2 := ⟨qR_F, qT_F, 4, rfl, rfl, by decide, qu_F, (gTb_1 (i := 79) (by rfl) rfl)⟩
theorem qp_F_19 : gLp "GossipNodes$Flight" 19 1 2 (.object "GossipNodes$Message") true := ⟨qR_F, qT_F, 4, qt_F, rfl, rfl, by decide, qu_F, (gTb_1 (i := 79) (by rfl) rfl), qk_F, qn_F, rfl, rfl, fun _ => rfl⟩
theorem qf_F_23 : gLk "GossipNodes$Flight" 23 1 3 := ⟨qR_F, qT_F, 4, rfl, rfl, by decide, qu_F, (gTb_1 (i := 80) (by rfl) rfl)⟩
theorem qp_F_23 : gLp "GossipNodes$Flight" 23 1 3 (.int) false := ⟨qR_F, qT_F, 4, qt_F, rfl, rfl, by decide, qu_F, (gTb_1 (i := 80) (by rfl) rfl), qk_F, qn_F, rfl, rfl, fun _ => rfl⟩
theorem qf_M_11 : gLk "GossipNodes$Message" 11 2 7 := ⟨qR_M, qT_M, 8, rfl, rfl, by decide, qu_M, (gTb_1 (i := 55) (by rfl) rfl)⟩
theorem qp_M_11 : gLp "GossipNodes$Message" 11 2 7 (.array (.int)) true := ⟨qR_M, qT_M, 8, qt_M, rfl, rfl, by decide, qu_M, (gTb_1 (i := 55) (by rfl) rfl), qk_M, qn_M, rfl, rfl, fun _ => rfl⟩
theorem qf_M_15 : gLk "GossipNodes$Message" 15 2 0 := ⟨qR_M, qT_M, 8, rfl, rfl, by decide, qu_M, (gTb_1 (i := 37) (by rfl) rfl)⟩
theorem qp_M_15 : gLp "GossipNodes$Message" 15 2 0 (.int) false := ⟨qR_M, qT_M, 8, qt_M, rfl, rfl, by decide, qu_M, (gTb_1 (i := 37) (by rfl) rfl), qk_M, qn_M, rfl, rfl, fun _ => rfl⟩
theorem qf_M_19 : gLk "GossipNodes$Message" 19 2 1 := ⟨qR_M, qT_M, 8, rfl, rfl, by decide, qu_M, (gTb_1 (i := 39) (by rfl) rfl)⟩
theorem qp_M_19 : gLp "GossipNodes$Message" 19 2 1 (.int) false := ⟨qR_M, qT_M, 8, qt_M, rfl, rfl, by decide, qu_M, (gTb_1 (i := 39) (by rfl) rfl), qk_M, qn_M, rfl, rfl, fun _ => rfl⟩
theorem qf_M_22 : gLk "GossipNodes$Message" 22 2 2 := ⟨qR_M, qT_M, 8, rfl, rfl, by decide, qu_M, (gTb_1 (i := 42) (by rfl) rfl)⟩
theorem qp_M_22 : gLp "GossipNodes$Message" 22 2 2 (.int) false := ⟨qR_M, qT_M, 8, qt_M, rfl, rfl, by decide, qu_M, (gTb_1 (i := 42) (by rfl) rfl), qk_M, qn_M, rfl, rfl, fun _ => rfl⟩
theorem qf_M_25 : gLk "GossipNodes$Message" 25 2 6 := ⟨qR_M, qT_M, 8, rfl, rfl, by decide, qu_M, (gTb_1 (i := 53) (by rfl) rfl)⟩
theorem qp_M_25 : gLp "GossipNodes$Message" 25 2 6 (.int) false := ⟨qR_M, qT_M, 8, qt_M, rfl, rfl, by decide, qu_M, (gTb_1 (i := 53) (by rfl) rfl), qk_M, qn_M, rfl, rfl, fun _ => rfl⟩
theorem qf_M_28 : gLk "GossipNodes$Message" 28 2 3 := ⟨qR_M, qT_M, 8, rfl, rfl, by decide, qu_M, (gTb_1 (i := 45) (by rfl) rfl)⟩
theorem qp_M_28 : gLp "GossipNodes$Message" 28 2 3 (.int) false := ⟨qR_M, qT_M, 8, qt_M, rfl, rfl, by decide, qu_M, (gTb_1 (i := 45) (by rfl) rfl), qk_M, qn_M, rfl, rfl, fun _ => rfl⟩
theorem qf_M_31 : gLk "GossipNodes$Message" 31 2 4 := ⟨qR_M, qT_M, 8, rfl, rfl, by decide, qu_M, (gTb_1 (i := 48) (by rfl) rfl)⟩
theorem qp_M_31 : gLp "GossipNodes$Message" 31 2 4 (.int) false := ⟨qR_M, qT_M, 8, qt_M, rfl, rfl, by decide, qu_M, (gTb_1 (i := 48) (by rfl) rfl), qk_M, qn_M, rfl, rfl, fun _ => rfl⟩
theorem qf_M_34 : gLk "GossipNodes$Message" 34 2 5 := ⟨qR_M, qT_M, 8, rfl, rfl, by decide, qu_M, (gTb_1 (i := 51) (by rfl) rfl)⟩
theorem qp_M_34 : gLp "GossipNodes$Message" 34 2 5 (.int) false := ⟨qR_M, qT_M, 8, qt_M, rfl, rfl, by decide, qu_M, (gTb_1 (i := 51) (by rfl) rfl), qk_M, qn_M, rfl, rfl, fun _ => rfl⟩
theorem qf_M_37 : gLk "GossipNodes$Message" 37 0 0 := ⟨qR_E, qT_E, 5, rfl, rfl, by decide, qu_E, (gTb_1 (i := 109) (by rfl) rfl)⟩
theorem qp_M_37 : gLp "GossipNodes$Message" 37 0 0 (.int) false := ⟨qR_E, qT_E, 5, qt_E, rfl, rfl, by decide, qu_E, (gTb_1 (i := 109) (by rfl) rfl), qk_E, qn_E, rfl, rfl, fun h => nomatch h⟩
theorem qf_M_42 : gLk "GossipNodes$Message" 42 0 1 := ⟨qR_E, qT_E, 5, rfl, rfl, by decide, qu_E, (gTb_1 (i := 113) (by rfl) rfl)⟩
theorem qp_M_42 : gLp "GossipNodes$Message" 42 0 1 (.int) false := ⟨qR_E, qT_E, 5, qt_E, rfl, rfl, by decide, qu_E, (gTb_1 (i := 113) (by rfl) rfl), qk_E, qn_E, rfl, rfl, fun h => nomatch h⟩
theorem qf_N_13 : gLk "GossipNodes$Node" 13 3 4 := ⟨qR_N, qT_N, 18, rfl, rfl, by decide, qu_N, (gTb_1 (i := 159) (by rfl) rfl)⟩
theorem qp_N_13 : gLp "GossipNodes$Node" 13 3 4 (.array (.object "GossipNodes$Relay")) true := ⟨qR_N, qT_N, 18, qt_N, rfl, rfl, by decide, qu_N, (gTb_1 (i := 159) (by rfl) rfl), qk_N, qn_N, rfl, rfl, fun _ => rfl⟩
theorem qf_N_17 : gLk "GossipNodes$Node" 17 3 0 := ⟨qR_N, qT_N, 18, rfl, rfl, by decide, qu_N, (gTb_1 (i := 154) (by rfl) rfl)⟩
theorem qp_N_17 : gLp "GossipNodes$Node" 17 3 0 (.int) true := ⟨qR_N, qT_N, 18, qt_N, rfl, rfl, by decide, qu_N, (gTb_1 (i := 154) (by rfl) rfl), qk_N, qn_N, rfl, rfl, fun _ => rfl⟩
theorem qf_N_21 : gLk "GossipNodes$Node" 21 3 1 := ⟨qR_N, qT_N, 18, rfl, rfl, by decide, qu_N, (gTb_1 (i := 155) (by rfl) rfl)⟩
theorem qp_N_21 : gLp "GossipNodes$Node" 21 3 1 (.int) true := ⟨qR_N, qT_N, 18, qt_N, rfl, rfl, by decide, qu_N, (gTb_1 (i := 155) (by rfl) rfl), qk_N, qn_N, rfl, rfl, fun _ => rfl⟩
theorem qf_N_24 : gLk "GossipNodes$Node" 24 3 2 := ⟨qR_N, qT_N, 18, rfl, rfl, by decide, qu_N, (gTb_1 (i := 156) (by rfl) rfl)⟩
theorem qp_N_24 : gLp "GossipNodes$Node" 24 3 2 (.object "GossipNodes$Flight") true := ⟨qR_N, qT_N, 18, qt_N, rfl, rfl, by decide, qu_N, (gTb_1 (i := 156) (by rfl) rfl), qk_N, qn_N, rfl, rfl, fun _ => rfl⟩
theorem qf_N_30 : gLk "GossipNodes$Node" 30 3 3 := ⟨qR_N, qT_N, 18, rfl, rfl, by decide, qu_N, (gTb_1 (i := 157) (by rfl) rfl)⟩
theorem qp_N_30 : gLp "GossipNodes$Node" 30 3 3 (.array (.object "GossipNodes$Entry")) true := ⟨qR_N, qT_N, 18, qt_N, rfl, rfl, by decide, qu_N, (gTb_1 (i := 157) (by rfl) rfl), qk_N, qn_N, rfl, rfl, fun _ => rfl⟩
theorem qf_N_43 : gLk "GossipNodes$Node" 43 3 5 := ⟨qR_N, qT_N, 18, rfl, rfl, by decide, qu_N, (gTb_1 (i := 161) (by rfl) rfl)⟩
theorem qp_N_43 : gLp "GossipNodes$Node" 43 3 5 (.boolean) false := ⟨qR_N, qT_N, 18, qt_N, rfl, rfl, by decide, qu_N, (gTb_1 (i := 161) (by rfl) rfl), qk_N, qn_N, rfl, rfl, fun _ => rfl⟩
theorem qf_N_47 : gLk "GossipNodes$Node" 47 3 6 := ⟨qR_N, qT_N, 18, rfl, rfl, by decide, qu_N, (gTb_1 (i := 162) (by rfl) rfl)⟩
theorem qp_N_47 : gLp "GossipNodes$Node" 47 3 6 (.int) false := ⟨qR_N, qT_N, 18, qt_N, rfl, rfl, by decide, qu_N, (gTb_1 (i := 162) (by rfl) rfl), qk_N, qn_N, rfl, rfl, fun _ => rfl⟩
theorem qf_N_50 : gLk "GossipNodes$Node" 50 3 7 := ⟨qR_N, qT_N, 18, rfl, rfl, by decide, qu_N, (gTb_1 (i := 163) (by rfl) rfl)⟩
theorem qp_N_50 : gLp "GossipNodes$Node" 50 3 7 (.int) false := ⟨qR_N, qT_N, 18, qt_N, rfl, rfl, by decide, qu_N, (gTb_1 (i := 163) (by rfl) rfl), qk_N, qn_N, rfl, rfl, fun _ => rfl⟩
theorem qf_N_53 : gLk "GossipNodes$Node" 53 3 8 := ⟨qR_N, qT_N, 18, rfl, rfl, by decide, qu_N, (gTb_1 (i := 164) (by rfl) rfl)⟩
theorem qp_N_53 : gLp "GossipNodes$Node" 53 3 8 (.int) false := ⟨qR_N, qT_N, 18, qt_N, rfl, rfl, by decide, qu_N, (gTb_1 (i := 164) (by rfl) rfl), qk_N, qn_N, rfl, rfl, fun _ => rfl⟩
theorem qf_N_56 : gLk "GossipNodes$Node" 56 3 9 := ⟨qR_N, qT_N, 18, rfl, rfl, by decide, qu_N, (gTb_1 (i := 165) (by rfl) rfl)⟩
theorem qp_N_56 : gLp "GossipNodes$Node" 56 3 9 (.int) false := ⟨qR_N, qT_N, 18, qt_N, rfl, rfl, by decide, qu_N, (gTb_1 (i := 165) (by rfl) rfl), qk_N, qn_N, rfl, rfl, fun _ => rfl⟩
theorem qf_N_59 : gLk "GossipNodes$Node" 59 3 10 := ⟨qR_N, qT_N, 18, rfl, rfl, by decide, qu_N, (gTb_1 (i := 166) (by rfl) rfl)⟩
theorem qp_N_59 : gLp "GossipNodes$Node" 59 3 10 (.int) false := ⟨qR_N, qT_N, 18, qt_N, rfl, rfl, by decide, qu_N, (gTb_1 (i := 166) (by rfl) rfl), qk_N, qn_N, rfl, rfl, fun _ => rfl⟩
theorem qf_N_62 : gLk "GossipNodes$Node" 62 3 11 := ⟨qR_N, qT_N, 18, rfl, rfl, by decide, qu_N, (gTb_1 (i := 167) (by rfl) rfl)⟩
theorem qp_N_62 : gLp "GossipNodes$Node" 62 3 11 (.int) false := ⟨qR_N, qT_N, 18, qt_N, rfl, rfl, by decide, qu_N, (gTb_1 (i := 167) (by rfl) rfl), qk_N, qn_N, rfl, rfl, fun _ => rfl⟩
theorem qf_N_65 : gLk "GossipNodes$Node" 65 3 12 := ⟨qR_N, qT_N, 18, rfl, rfl, by decide, qu_N, (gTb_1 (i := 168) (by rfl) rfl)⟩
theorem qp_N_65 : gLp "GossipNodes$Node" 65 3 12 (.int) false := ⟨qR_N, qT_N, 18, qt_N, rfl, rfl, by decide, qu_N, (gTb_1 (i := 168) (by rfl) rfl), qk_N, qn_N, rfl, rfl, fun _ => rfl⟩
theorem qf_N_68 : gLk "GossipNodes$Node" 68 3 13 := ⟨qR_N, qT_N, 18, rfl, rfl, by decide, qu_N, (gTb_1 (i := 169) (by rfl) rfl)⟩
theorem qp_N_68 : gLp "GossipNodes$Node" 68 3 13 (.int) false := ⟨qR_N, qT_N, 18, qt_N, rfl, rfl, by decide, qu_N, (gTb_1 (i := 169) (by rfl) rfl), qk_N, qn_N, rfl, rfl, fun _ => rfl⟩
theorem qf_N_71 : gLk "GossipNodes$Node" 71 3 14 := ⟨qR_N, qT_N, 18, rfl, rfl, by decide, qu_N, (gTb_1 (i := 170) (by rfl) rfl)⟩
theorem qp_N_71 : gLp "GossipNodes$Node" 71 3 14 (.boolean) false := ⟨qR_N, qT_N, 18, qt_N, rfl, rfl, by decide, qu_N, (gTb_1 (i := 170) (by rfl) rfl), qk_N, qn_N, rfl, rfl, fun _ => rfl⟩
theorem qf_N_74 : gLk "GossipNodes$Node" 74 3 15 := ⟨qR_N, qT_N, 18, rfl, rfl, by decide, qu_N, (gTb_1 (i := 171) (by rfl) rfl)⟩
theorem qp_N_74 : gLp "GossipNodes$Node" 74 3 15 (.int) false := ⟨qR_N, qT_N, 18, qt_N, rfl, rfl, by decide, qu_N, (gTb_1 (i := 171) (by rfl) rfl), qk_N, qn_N, rfl, rfl, fun _ => rfl⟩
theorem qf_N_77 : gLk "GossipNodes$Node" 77 3 16 := ⟨qR_N, qT_N, 18, rfl, rfl, by decide, qu_N, (gTb_1 (i := 172) (by rfl) rfl)⟩
theorem qp_N_77 : gLp "GossipNodes$Node" 77 3 16 (.int) false := ⟨qR_N, qT_N, 18, qt_N, rfl, rfl, by decide, qu_N, (gTb_1 (i := 172) (by rfl) rfl), qk_N, qn_N, rfl, rfl, fun _ => rfl⟩
theorem qf_N_80 : gLk "GossipNodes$Node" 80 3 17 := ⟨qR_N, qT_N, 18, rfl, rfl, by decide, qu_N, (gTb_1 (i := 173) (by rfl) rfl)⟩
theorem qp_N_80 : gLp "GossipNodes$Node" 80 3 17 (.int) false := ⟨qR_N, qT_N, 18, qt_N, rfl, rfl, by decide, qu_N, (gTb_1 (i := 173) (by rfl) rfl), qk_N, qn_N, rfl, rfl, fun _ => rfl⟩
theorem qf_N_83 : gLk "GossipNodes$Node" 83 0 1 := ⟨qR_E, qT_E, 5, rfl, rfl, by decide, qu_E, (gTb_1 (i := 112) (by rfl) rfl)⟩
theorem qp_N_83 : gLp "GossipNodes$Node" 83 0 1 (.int) false := ⟨qR_E, qT_E, 5, qt_E, rfl, rfl, by decide, qu_E, (gTb_1 (i := 112) (by rfl) rfl), qk_E, qn_E, rfl, rfl, fun h => nomatch h⟩
theorem qf_N_86 : gLk "GossipNodes$Node" 86 0 0 := ⟨qR_E, qT_E, 5, rfl, rfl, by decide, qu_E, (gTb_1 (i := 108) (by rfl) rfl)⟩
theorem qp_N_86 : gLp "GossipNodes$Node" 86 0 0 (.int) false := ⟨qR_E, qT_E, 5, qt_E, rfl, rfl, by decide, qu_E, (gTb_1 (i := 108) (by rfl) rfl), qk_E, qn_E, rfl, rfl, fun h => nomatch h⟩
theorem qf_N_122 : gLk "GossipNodes$Node" 122 0 4 := ⟨qR_E, qT_E, 5, rfl, rfl, by decide, qu_E, (gTb_1 (i := 120) (by rfl) rfl)⟩
theorem qp_N_122 : gLp "GossipNodes$Node" 122 0 4 (.int) false := ⟨qR_E, qT_E, 5, qt_E, rfl, rfl, by decide, qu_E, (gTb_1 (i := 120) (by rfl) rfl), qk_E, qn_E, rfl, rfl, fun h => nomatch h⟩
theorem qf_N_125 : gLk "GossipNodes$Node" 125 2 6 := ⟨qR_M, qT_M, 8, rfl, rfl, by decide, qu_M, (gTb_1 (i := 54) (by rfl) rfl)⟩
theorem qp_N_125 : gLp "GossipNodes$Node" 125 2 6 (.int) false := ⟨qR_M, qT_M, 8, qt_M, rfl, rfl, by decide, qu_M, (gTb_1 (i := 54) (by rfl) rfl), qk_M, qn_M, rfl, rfl, fun h => nomatch h⟩
theorem qf_N_128 : gLk "GossipNodes$Node" 128 2 7 := ⟨qR_M, qT_M, 8, rfl, rfl, by decide, qu_M, (gTb_1 (i := 56) (by rfl) rfl)⟩
theorem qf_N_132 : gLk "GossipNodes$Node" 132 2 1 := ⟨qR_M, qT_M, 8, rfl, rfl, by decide, qu_M, (gTb_1 (i := 40) (by rfl) rfl)⟩
theorem qp_N_132 : gLp "GossipNodes$Node" 132 2 1 (.int) false := ⟨qR_M, qT_M, 8, qt_M, rfl, rfl, by decide, qu_M, (gTb_1 (i := 40) (by rfl) rfl), qk_M, qn_M, rfl, rfl, fun h => nomatch h⟩
theorem qf_N_138 : gLk "GossipNodes$Node" 138 2 0 := ⟨qR_M, qT_M, 8, rfl, rfl, by decide, qu_M, (gTb_1 (i := 38) (by rfl) rfl)⟩
theorem qp_N_138 : gLp "GossipNodes$Node" 138 2 0 (.int) false := ⟨qR_M, qT_M, 8, qt_M, rfl, rfl, by decide, qu_M, (gTb_1 (i := 38) (by rfl) rfl), qk_M, qn_M, rfl, rfl, fun h => nomatch h⟩
theorem qf_N_141 : gLk "GossipNodes$Node" 141 2 3 := ⟨qR_M, qT_M, 8, rfl, rfl, by decide, qu_M, (gTb_1 (i := 46) (by rfl) rfl)⟩
theorem qp_N_141 : gLp "GossipNodes$Node" 141 2 3 (.int) false := ⟨qR_M, qT_M, 8, qt_M, rfl, rfl, by decide, qu_M, (gTb_1 (i := 46) (by rfl) rfl), qk_M, qn_M, rfl, rfl, fun h => nomatch h⟩
theorem qf_N_144 : gLk "GossipNodes$Node" 144 2 4 := ⟨qR_M, qT_M, 8, rfl, rfl, by decide, qu_M, (gTb_1 (i := 49) (by rfl) rfl)⟩
theorem qp_N_144 : gLp "GossipNodes$Node" 144 2 4 (.int) false := ⟨qR_M, qT_M, 8, qt_M, rfl, rfl, by decide, qu_M, (gTb_1 (i := 49) (by rfl) rfl), qk_M, qn_M, rfl, rfl, fun h => nomatch h⟩
theorem qf_N_147 : gLk "GossipNodes$Node" 147 2 5 := ⟨qR_M, qT_M, 8, rfl, rfl, by decide, qu_M, (gTb_1 (i := 52) (by rfl) rfl)⟩
theorem qp_N_147 : gLp "GossipNodes$Node" 147 2 5 (.int) false := ⟨qR_M, qT_M, 8, qt_M, rfl, rfl, by decide, qu_M, (gTb_1 (i := 52) (by rfl) rfl), qk_M, qn_M, rfl, rfl, fun h => nomatch h⟩
theorem qf_N_174 : gLk "GossipNodes$Node" 174 0 3 := ⟨qR_E, qT_E, 5, rfl, rfl, by decide, qu_E, (gTb_1 (i := 118) (by rfl) rfl)⟩
theorem qp_N_174 : gLp "GossipNodes$Node" 174 0 3 (.int) false := ⟨qR_E, qT_E, 5, qt_E, rfl, rfl, by decide, qu_E, (gTb_1 (i := 118) (by rfl) rfl), qk_E, qn_E, rfl, rfl, fun h => nomatch h⟩
theorem qf_N_196 : gLk "GossipNodes$Node" 196 4 0 := ⟨qR_R, qT_R, 4, rfl, rfl, by decide, qu_R, (gTb_1 (i := 139) (by rfl) rfl)⟩
theorem qp_N_196 : gLp "GossipNodes$Node" 196 4 0 (.int) false := ⟨qR_R, qT_R, 4, qt_R, rfl, rfl, by decide, qu_R, (gTb_1 (i := 139) (by rfl) rfl), qk_R, qn_R, rfl, rfl, fun h => nomatch h⟩
theorem qf_N_197 : gLk "GossipNodes$Node" 197 4 1 := ⟨qR_R, qT_R, 4, rfl, rfl, by decide, qu_R, (gTb_1 (i := 141) (by rfl) rfl)⟩
theorem qp_N_197 : gLp "GossipNodes$Node" 197 4 1 (.int) false := ⟨qR_R, qT_R, 4, qt_R, rfl, rfl, by decide, qu_R, (gTb_1 (i := 141) (by rfl) rfl), qk_R, qn_R, rfl, rfl, fun h => nomatch h⟩
theorem qf_N_198 : gLk "GossipNodes$Node" 198 4 2 := ⟨qR_R, qT_R, 4, rfl, rfl, by decide, qu_R, (gTb_1 (i := 143) (by rfl) rfl)⟩
theorem qp_N_198 : gLp "GossipNodes$Node" 198 4 2 (.int) false := ⟨qR_R, qT_R, 4, qt_R, rfl, rfl, by decide, qu_R, (gTb_1 (i := 143) (by rfl) rfl), qk_R, qn_R, rfl, rfl, fun h => nomatch h⟩
theorem qf_N_199 : gLk "GossipNodes$Node" 199 4 3 := ⟨qR_R, qT_R, 4, rfl, rfl, by decide, qu_R, (gTb_1 (i := 144) (by rfl) rfl)⟩
theorem qp_N_199 : gLp "GossipNodes$Node" 199 4 3 (.int) false := ⟨qR_R, qT_R, 4, qt_R, rfl, rfl, by decide, qu_R, (gTb_1 (i := 144) (by rfl) rfl), qk_R, qn_R, rfl, rfl, fun h => nomatch h⟩
theorem qf_N_222 : gLk "GossipNodes$Node" 222 0 2 := ⟨qR_E, qT_E, 5, rfl, rfl, by decide, qu_E, (gTb_1 (i := 116) (by rfl) rfl)⟩
theorem qp_N_222 : gLp "GossipNodes$Node" 222 0 2 (.int) false := ⟨qR_E, qT_E, 5, qt_E, rfl, rfl, by decide, qu_E, (gTb_1 (i := 116) (by rfl) rfl), qk_E, qn_E, rfl, rfl, fun h => nomatch h⟩
theorem qf_R_7 : gLk "GossipNodes$Relay" 7 4 0 := ⟨qR_R, qT_R, 4, rfl, rfl, by decide, qu_R, (gTb_1 (i := 138) (by rfl) rfl)⟩
theorem qp_R_7 : gLp "GossipNodes$Relay" 7 4 0 (.int) false := ⟨qR_R, qT_R, 4, qt_R, rfl, rfl, by decide, qu_R, (gTb_1 (i := 138) (by rfl) rfl), qk_R, qn_R, rfl, rfl, fun _ => rfl⟩
theorem qf_R_13 : gLk "GossipNodes$Relay" 13 2 3 := ⟨qR_M, qT_M, 8, rfl, rfl, by decide, qu_M, (gTb_1 (i := 44) (by rfl) rfl)⟩
theorem qp_R_13 : gLp "GossipNodes$Relay" 13 2 3 (.int) false := ⟨qR_M, qT_M, 8, qt_M, rfl, rfl, by decide, qu_M, (gTb_1 (i := 44) (by rfl) rfl), qk_M, qn_M, rfl, rfl, fun h => nomatch h⟩
theorem qf_R_16 : gLk "GossipNodes$Relay" 16 4 1 := ⟨qR_R, qT_R, 4, rfl, rfl, by decide, qu_R, (gTb_1 (i := 140) (by rfl) rfl)⟩
theorem qp_R_16 : gLp "GossipNodes$Relay" 16 4 1 (.int) false := ⟨qR_R, qT_R, 4, qt_R, rfl, rfl, by decide, qu_R, (gTb_1 (i := 140) (by rfl) rfl), qk_R, qn_R, rfl, rfl, fun _ => rfl⟩
theorem qf_R_19 : gLk "GossipNodes$Relay" 19 2 4 := ⟨qR_M, qT_M, 8, rfl, rfl, by decide, qu_M, (gTb_1 (i := 47) (by rfl) rfl)⟩
theorem qp_R_19 : gLp "GossipNodes$Relay" 19 2 4 (.int) false := ⟨qR_M, qT_M, 8, qt_M, rfl, rfl, by decide, qu_M, (gTb_1 (i := 47) (by rfl) rfl), qk_M, qn_M, rfl, rfl, fun h => nomatch h⟩
theorem qf_R_20 : gLk "GossipNodes$Relay" 20 4 2 := ⟨qR_R, qT_R, 4, rfl, rfl, by decide, qu_R, (gTb_1 (i := 142) (by rfl) rfl)⟩
theorem qp_R_20 : gLp "GossipNodes$Relay" 20 4 2 (.int) false := ⟨qR_R, qT_R, 4, qt_R, rfl, rfl, by decide, qu_R, (gTb_1 (i := 142) (by rfl) rfl), qk_R, qn_R, rfl, rfl, fun _ => rfl⟩
theorem qf_R_23 : gLk "GossipNodes$Relay" 23 2 5 := ⟨qR_M, qT_M, 8, rfl, rfl, by decide, qu_M, (gTb_1 (i := 50) (by rfl) rfl)⟩
theorem qp_R_23 : gLp "GossipNodes$Relay" 23 2 5 (.int) false := ⟨qR_M, qT_M, 8, qt_M, rfl, rfl, by decide, qu_M, (gTb_1 (i := 50) (by rfl) rfl), qk_M, qn_M, rfl, rfl, fun h => nomatch h⟩
theorem qf_Z_7 : gLk "GossipNodesModel" 7 6 3 := ⟨qR_Z, qT_Z, 28, rfl, rfl, by decide, qu_Z, (gTb_3 (i := 15) (by rfl) rfl)⟩
theorem qp_Z_7 : gLp "GossipNodesModel" 7 6 3 (.array (.int)) false := ⟨qR_Z, qT_Z, 28, qt_Z, rfl, rfl, by decide, qu_Z, (gTb_3 (i := 15) (by rfl) rfl), qk_Z, qn_Z, rfl, rfl, fun _ => rfl⟩
theorem qf_Z_13 : gLk "GossipNodesModel" 13 6 4 := ⟨qR_Z, qT_Z, 28, rfl, rfl, by decide, qu_Z, (gTb_3 (i := 16) (by rfl) rfl)⟩
theorem qp_Z_13 : gLp "GossipNodesModel" 13 6 4 (.array (.int)) false := ⟨qR_Z, qT_Z, 28, qt_Z, rfl, rfl, by decide, qu_Z, (gTb_3 (i := 16) (by rfl) rfl), qk_Z, qn_Z, rfl, rfl, fun _ => rfl⟩
theorem qf_Z_16 : gLk "GossipNodesModel" 16 6 5 := ⟨qR_Z, qT_Z, 28, rfl, rfl, by decide, qu_Z, (gTb_3 (i := 17) (by rfl) rfl)⟩
theorem qp_Z_16 : gLp "GossipNodesModel" 16 6 5 (.array (.boolean)) false := ⟨qR_Z, qT_Z, 28, qt_Z, rfl, rfl, by decide, qu_Z, (gTb_3 (i := 17) (by rfl) rfl), qk_Z, qn_Z, rfl, rfl, fun _ => rfl⟩
theorem qf_Z_20 : gLk "GossipNodesModel" 20 6 6 := ⟨qR_Z, qT_Z, 28, rfl, rfl, by decide, qu_Z, (gTb_3 (i := 18) (by rfl) rfl)⟩
theorem qp_Z_20 : gLp "GossipNodesModel" 20 6 6 (.array (.boolean)) false := ⟨qR_Z, qT_Z, 28, qt_Z, rfl, rfl, by decide, qu_Z, (gTb_3 (i := 18) (by rfl) rfl), qk_Z, qn_Z, rfl, rfl, fun _ => rfl⟩
theorem qf_Z_23 : gLk "GossipNodesModel" 23 6 7 := ⟨qR_Z, qT_Z, 28, rfl, rfl, by decide, qu_Z, (gTb_3 (i := 19) (by rfl) rfl)⟩
theorem qp_Z_23 : gLp "GossipNodesModel" 23 6 7 (.array (.int)) false := ⟨qR_Z, qT_Z, 28, qt_Z, rfl, rfl, by decide, qu_Z, (gTb_3 (i := 19) (by rfl) rfl), qk_Z, qn_Z, rfl, rfl, fun _ => rfl⟩
theorem qf_Z_26 : gLk "GossipNodesModel" 26 6 8 := ⟨qR_Z, qT_Z, 28, rfl, rfl, by decide, qu_Z, (gTb_3 (i := 20) (by rfl) rfl)⟩
theorem qp_Z_26 : gLp "GossipNodesModel" 26 6 8 (.array (.int)) false := ⟨qR_Z, qT_Z, 28, qt_Z, rfl, rfl, by decide, qu_Z, (gTb_3 (i := 20) (by rfl) rfl), qk_Z, qn_Z, rfl, rfl, fun _ => rfl⟩
theorem qf_Z_29 : gLk "GossipNodesModel" 29 6 9 := ⟨qR_Z, qT_Z, 28, rfl, rfl, by decide, qu_Z, (gTb_3 (i := 21) (by rfl) rfl)⟩
theorem qp_Z_29 : gLp "GossipNodesModel" 29 6 9 (.array (.int)) false := ⟨qR_Z, qT_Z, 28, qt_Z, rfl, rfl, by decide, qu_Z, (gTb_3 (i := 21) (by rfl) rfl), qk_Z, qn_Z, rfl, rfl, fun _ => rfl⟩
theorem qf_Z_32 : gLk "GossipNodesModel" 32 6 10 := ⟨qR_Z, qT_Z, 28, rfl, rfl, by decide, qu_Z, (gTb_3 (i := 22) (by rfl) rfl)⟩
theorem qp_Z_32 : gLp "GossipNodesModel" 32 6 10 (.array (.int)) false := ⟨qR_Z, qT_Z, 28, qt_Z, rfl, rfl, by decide, qu_Z, (gTb_3 (i := 22) (by rfl) rfl), qk_Z, qn_Z, rfl, rfl, fun _ => rfl⟩
theorem qf_Z_35 : gLk "GossipNodesModel" 35 6 11 := ⟨qR_Z, qT_Z, 28, rfl, rfl, by decide, qu_Z, (gTb_3 (i := 23) (by rfl) rfl)⟩
theorem qp_Z_35 : gLp "GossipNodesModel" 35 6 11 (.array (.int)) false := ⟨qR_Z, qT_Z, 28, qt_Z, rfl, rfl, by decide, qu_Z, (gTb_3 (i := 23) (by rfl) rfl), qk_Z, qn_Z, rfl, rfl, fun _ => rfl⟩
theorem qf_Z_38 : gLk "GossipNodesModel" 38 6 12 := ⟨qR_Z, qT_Z, 28, rfl, rfl, by decide, qu_Z, (gTb_3 (i := 24) (by rfl) rfl)⟩
theorem qp_Z_38 : gLp "GossipNodesModel" 38 6 12 (.array (.int)) false := ⟨qR_Z, qT_Z, 28, qt_Z, rfl, rfl, by decide, qu_Z, (gTb_3 (i := 24) (by rfl) rfl), qk_Z, qn_Z, rfl, rfl, fun _ => rfl⟩
theorem qf_Z_41 : gLk "GossipNodesModel" 41 6 13 := ⟨qR_Z, qT_Z, 28, rfl, rfl, by decide, qu_Z, (gTb_3 (i := 25) (by rfl) rfl)⟩
theorem qp_Z_41 : gLp "GossipNodesModel" 41 6 13 (.array (.int)) false := ⟨qR_Z, qT_Z, 28, qt_Z, rfl, rfl, by decide, qu_Z, (gTb_3 (i := 25) (by rfl) rfl), qk_Z, qn_Z, rfl, rfl, fun _ => rfl⟩
theorem qf_Z_44 : gLk "GossipNodesModel" 44 6 14 := ⟨qR_Z, qT_Z, 28, rfl, rfl, by decide, qu_Z, (gTb_3 (i := 26) (by rfl) rfl)⟩
theorem qp_Z_44 : gLp "GossipNodesModel" 44 6 14 (.array (.int)) false := ⟨qR_Z, qT_Z, 28, qt_Z, rfl, rfl, by decide, qu_Z, (gTb_3 (i := 26) (by rfl) rfl), qk_Z, qn_Z, rfl, rfl, fun _ => rfl⟩
theorem qf_Z_47 : gLk "GossipNodesModel" 47 6 15 := ⟨qR_Z, qT_Z, 28, rfl, rfl, by decide, qu_Z, (gTb_3 (i := 27) (by rfl) rfl)⟩
theorem qp_Z_47 : gLp "GossipNodesModel" 47 6 15 (.array (.int)) false := ⟨qR_Z, qT_Z, 28, qt_Z, rfl, rfl, by decide, qu_Z, (gTb_3 (i := 27) (by rfl) rfl), qk_Z, qn_Z, rfl, rfl, fun _ => rfl⟩
theorem qf_Z_50 : gLk "GossipNodesModel" 50 6 16 := ⟨qR_Z, qT_Z, 28, rfl, rfl, by decide, qu_Z, (gTb_3 (i := 28) (by rfl) rfl)⟩
theorem qp_Z_50 : gLp "GossipNodesModel" 50 6 16 (.array (.int)) false := ⟨qR_Z, qT_Z, 28, qt_Z, rfl, rfl, by decide, qu_Z, (gTb_3 (i := 28) (by rfl) rfl), qk_Z, qn_Z, rfl, rfl, fun _ => rfl⟩
theorem qf_Z_53 : gLk "GossipNodesModel" 53 6 17 := ⟨qR_Z, qT_Z, 28, rfl, rfl, by decide, qu_Z, (gTb_3 (i := 29) (by rfl) rfl)⟩
theorem qp_Z_53 : gLp "GossipNodesModel" 53 6 17 (.array (.int)) false := ⟨qR_Z, qT_Z, 28, qt_Z, rfl, rfl, by decide, qu_Z, (gTb_3 (i := 29) (by rfl) rfl), qk_Z, qn_Z, rfl, rfl, fun _ => rfl⟩
theorem qf_Z_56 : gLk "GossipNodesModel" 56 6 18 := ⟨qR_Z, qT_Z, 28, rfl, rfl, by decide, qu_Z, (gTb_3 (i := 30) (by rfl) rfl)⟩
theorem qp_Z_56 : gLp "GossipNodesModel" 56 6 18 (.array (.boolean)) false := ⟨qR_Z, qT_Z, 28, qt_Z, rfl, rfl, by decide, qu_Z, (gTb_3 (i := 30) (by rfl) rfl), qk_Z, qn_Z, rfl, rfl, fun _ => rfl⟩
theorem qf_Z_59 : gLk "GossipNodesModel" 59 6 19 := ⟨qR_Z, qT_Z, 28, rfl, rfl, by decide, qu_Z, (gTb_3 (i := 31) (by rfl) rfl)⟩
theorem qp_Z_59 : gLp "GossipNodesModel" 59 6 19 (.array (.int)) false := ⟨qR_Z, qT_Z, 28, qt_Z, rfl, rfl, by decide, qu_Z, (gTb_3 (i := 31) (by rfl) rfl), qk_Z, qn_Z, rfl, rfl, fun _ => rfl⟩
theorem qf_Z_62 : gLk "GossipNodesModel" 62 6 20 := ⟨qR_Z, qT_Z, 28, rfl, rfl, by decide, qu_Z, (gTb_3 (i := 32) (by rfl) rfl)⟩
theorem qp_Z_62 : gLp "GossipNodesModel" 62 6 20 (.array (.int)) false := ⟨qR_Z, qT_Z, 28, qt_Z, rfl, rfl, by decide, qu_Z, (gTb_3 (i := 32) (by rfl) rfl), qk_Z, qn_Z, rfl, rfl, fun _ => rfl⟩
theorem qf_Z_65 : gLk "GossipNodesModel" 65 6 21 := ⟨qR_Z, qT_Z, 28, rfl, rfl, by decide, qu_Z, (gTb_3 (i := 33) (by rfl) rfl)⟩
theorem qp_Z_65 : gLp "GossipNodesModel" 65 6 21 (.array (.boolean)) false := ⟨qR_Z, qT_Z, 28, qt_Z, rfl, rfl, by decide, qu_Z, (gTb_3 (i := 33) (by rfl) rfl), qk_Z, qn_Z, rfl, rfl, fun _ => rfl⟩
theorem qf_Z_68 : gLk "GossipNodesModel" 68 6 22 := ⟨qR_Z, qT_Z, 28, rfl, rfl, by decide, qu_Z, (gTb_3 (i := 34) (by rfl) rfl)⟩
theorem qp_Z_68 : gLp "GossipNodesModel" 68 6 22 (.array (.int)) false := ⟨qR_Z, qT_Z, 28, qt_Z, rfl, rfl, by decide, qu_Z, (gTb_3 (i := 34) (by rfl) rfl), qk_Z, qn_Z, rfl, rfl, fun _ => rfl⟩
theorem qf_Z_71 : gLk "GossipNodesModel" 71 6 23 := ⟨qR_Z, qT_Z, 28, rfl, rfl, by decide, qu_Z, (gTb_3 (i := 35) (by rfl) rfl)⟩
theorem qp_Z_71 : gLp "GossipNodesModel" 71 6 23 (.array (.int)) false := ⟨qR_Z, qT_Z, 28, qt_Z, rfl, rfl, by decide, qu_Z, (gTb_3 (i := 35) (by rfl) rfl), qk_Z, qn_Z, rfl, rfl, fun _ => rfl⟩
theorem qf_Z_74 : gLk "GossipNodesModel" 74 6 24 := ⟨qR_Z, qT_Z, 28, rfl, rfl, by decide, qu_Z, (gTb_3 (i := 36) (by rfl) rfl)⟩
theorem qp_Z_74 : gLp "GossipNodesModel" 74 6 24 (.array (.int)) false := ⟨qR_Z, qT_Z, 28, qt_Z, rfl, rfl, by decide, qu_Z, (gTb_3 (i := 36) (by rfl) rfl), qk_Z, qn_Z, rfl, rfl, fun _ => rfl⟩
theorem qf_Z_77 : gLk "GossipNodesModel" 77 6 25 := ⟨qR_Z, qT_Z, 28, rfl, rfl, by decide, qu_Z, (gTb_3 (i := 37) (by rfl) rfl)⟩
theorem qp_Z_77 : gLp "GossipNodesModel" 77 6 25 (.array (.int)) false := ⟨qR_Z, qT_Z, 28, qt_Z, rfl, rfl, by decide, qu_Z, (gTb_3 (i := 37) (by rfl) rfl), qk_Z, qn_Z, rfl, rfl, fun _ => rfl⟩
theorem qf_Z_80 : gLk "GossipNodesModel" 80 6 26 := ⟨qR_Z, qT_Z, 28, rfl, rfl, by decide, qu_Z, (gTb_3 (i := 38) (by rfl) rfl)⟩
theorem qp_Z_80 : gLp "GossipNodesModel" 80 6 26 (.array (.int)) false := ⟨qR_Z, qT_Z, 28, qt_Z, rfl, rfl, by decide, qu_Z, (gTb_3 (i := 38) (by rfl) rfl), qk_Z, qn_Z, rfl, rfl, fun _ => rfl⟩
theorem qf_Z_83 : gLk "GossipNodesModel" 83 6 27 := ⟨qR_Z, qT_Z, 28, rfl, rfl, by decide, qu_Z, (gTb_3 (i := 39) (by rfl) rfl)⟩
theorem qp_Z_83 : gLp "GossipNodesModel" 83 6 27 (.array (.int)) false := ⟨qR_Z, qT_Z, 28, qt_Z, rfl, rfl, by decide, qu_Z, (gTb_3 (i := 39) (by rfl) rfl), qk_Z, qn_Z, rfl, rfl, fun _ => rfl⟩
theorem qf_Z_86 : gLk "GossipNodesModel" 86 6 0 := ⟨qR_Z, qT_Z, 28, rfl, rfl, by decide, qu_Z, (gTb_3 (i := 12) (by rfl) rfl)⟩
theorem qp_Z_86 : gLp "GossipNodesModel" 86 6 0 (.int) false := ⟨qR_Z, qT_Z, 28, qt_Z, rfl, rfl, by decide, qu_Z, (gTb_3 (i := 12) (by rfl) rfl), qk_Z, qn_Z, rfl, rfl, fun _ => rfl⟩
theorem qf_Z_109 : gLk "GossipNodesModel" 109 6 2 := ⟨qR_Z, qT_Z, 28, rfl, rfl, by decide, qu_Z, (gTb_3 (i := 14) (by rfl) rfl)⟩
theorem qp_Z_109 : gLp "GossipNodesModel" 109 6 2 (.int) false := ⟨qR_Z, qT_Z, 28, qt_Z, rfl, rfl, by decide, qu_Z, (gTb_3 (i := 14) (by rfl) rfl), qk_Z, qn_Z, rfl, rfl, fun _ => rfl⟩
theorem qf_Z_112 : gLk "GossipNodesModel" 112 6 1 := ⟨qR_Z, qT_Z, 28, rfl, rfl, by decide, qu_Z, (gTb_3 (i := 13) (by rfl) rfl)⟩
theorem qp_Z_112 : gLp "GossipNodesModel" 112 6 1 (.int) false := ⟨qR_Z, qT_Z, 28, qt_Z, rfl, rfl, by decide, qu_Z, (gTb_3 (i := 13) (by rfl) rfl), qk_Z, qn_Z, rfl, rfl, fun _ => rfl⟩
theorem qa_G_24 : gLi "GossipNodes" 24 qy_F_init qw_F_init 0 := ⟨qc_F_init, 2, rfl, qi_F_init, (gTb_1 (i := 26) (by rfl) rfl), (gTb_1 (i := 27) (by rfl) rfl), (gTb_1 (i := 3) (by rfl) rfl), rfl, ⟨by decide, by decide, by decide +kernel⟩, by decide⟩
theorem qa_G_39 : gLi "GossipNodes" 39 qy_N_init qw_N_init 3 := ⟨qc_N_init, 5, rfl, qi_N_init, (gTb_1 (i := 94) (by rfl) rfl), (gTb_1 (i := 95) (by rfl) rfl), (gTb_1 (i := 5) (by rfl) rfl), rfl, ⟨by decide, by decide, by decide +kernel⟩, by decide⟩
theorem qv_G_45 : gLv "GossipNodes" 45 qy_G_isNode qw_G_isNode 1 := ⟨qc_G_isNode, 2, _, rfl, qi_G_isNode, (gTb_1 (i := 231) (by rfl) rfl), (gTb_1 (i := 233) (by rfl) rfl), (gTb_sel (i := 0) (by rfl)), (gTb_1 (i := 1) (by rfl) rfl), ⟨by decide, by decide, by decide +kernel⟩, by decide⟩
theorem qv_G_53 : gLv "GossipNodes" 53 qy_N_begin qw_N_begin 1 := ⟨qc_N_begin, 3, _, rfl, qi_N_begin, (gTb_1 (i := 235) (by rfl) rfl), (gTb_1 (i := 236) (by rfl) rfl), (gTb_1 (i := 237) (by rfl) rfl), (gTb_1 (i := 5) (by rfl) rfl), ⟨by decide, by decide, by decide +kernel⟩, by decide⟩
theorem qv_G_57 : gLv "GossipNodes" 57 qy_N_send qw_N_send 5 := ⟨qc_N_send, 7, _, rfl, qi_N_send, (gTb_2 (i := 11) (by rfl) rfl), (gTb_2 (i := 12) (by rfl) rfl), (gTb_2 (i := 13) (by rfl) rfl), (gTb_1 (i := 5) (by rfl) rfl), ⟨by decide, by decide, by decide +kernel⟩, by decide⟩
theorem qv_G_61 : gLv "GossipNodes" 61 qy_G_isRunning qw_G_isRunning 1 := ⟨qc_G_isRunning, 2, _, rfl, qi_G_isRunning, (gTb_2 (i := 47) (by rfl) rfl), (gTb_2 (i := 49) (by rfl) rfl), (gTb_sel (i := 4) (by rfl)), (gTb_1 (i := 1) (by rfl) rfl), ⟨by decide, by decide, by decide +kernel⟩, by decide⟩
theorem qv_G_64 : gLv "GossipNodes" 64 qy_N_sayFarewell qw_N_sayFarewell 1 := ⟨qc_N_sayFarewell, 3, _, rfl, qi_N_sayFarewell, (gTb_2 (i := 55) (by rfl) rfl), (gTb_2 (i := 56) (by rfl) rfl), (gTb_2 (i := 57) (by rfl) rfl), (gTb_1 (i := 5) (by rfl) rfl), ⟨by decide, by decide, by decide +kernel⟩, by decide⟩
theorem qv_G_67 : gLv "GossipNodes" 67 qy_G_areCut qw_G_areCut 2 := ⟨qc_G_areCut, 3, _, rfl, qi_G_areCut, (gTb_2 (i := 64) (by rfl) rfl), (gTb_2 (i := 66) (by rfl) rfl), (gTb_sel (i := 5) (by rfl)), (gTb_1 (i := 1) (by rfl) rfl), ⟨by decide, by decide, by decide +kernel⟩, by decide⟩
theorem qv_G_71 : gLv "GossipNodes" 71 qy_F_lose qw_F_lose 1 := ⟨qc_F_lose, 4, _, rfl, qi_F_lose, (gTb_2 (i := 72) (by rfl) rfl), (gTb_2 (i := 73) (by rfl) rfl), (gTb_2 (i := 74) (by rfl) rfl), (gTb_1 (i := 3) (by rfl) rfl), ⟨by decide, by decide, by decide +kernel⟩, by decide⟩
theorem qv_G_74 : gLv "GossipNodes" 74 qy_F_overtake qw_F_overtake 1 := ⟨qc_F_overtake, 3, _, rfl, qi_F_overtake, (gTb_2 (i := 80) (by rfl) rfl), (gTb_2 (i := 81) (by rfl) rfl), (gTb_2 (i := 82) (by rfl) rfl), (gTb_1 (i := 3) (by rfl) rfl), ⟨by decide, by decide, by decide +kernel⟩, by decide⟩
theorem qv_G_77 : gLv "GossipNodes" 77 qy_G_deliverAll qw_G_deliverAll 0 := ⟨qc_G_deliverAll, 6, _, rfl, qi_G_deliverAll, (gTb_2 (i := 88) (by rfl) rfl), (gTb_2 (i := 90) (by rfl) rfl), (gTb_sel (i := 6) (by rfl)), (gTb_1 (i := 1) (by rfl) rfl), ⟨by decide, by decide, by decide +kernel⟩, by decide⟩
theorem qv_G_81 : gLv "GossipNodes" 81 qy_N_timer qw_N_timer 1 := ⟨qc_N_timer, 2, _, rfl, qi_N_timer, (gTb_2 (i := 147) (by rfl) rfl), (gTb_2 (i := 148) (by rfl) rfl), (gTb_2 (i := 149) (by rfl) rfl), (gTb_1 (i := 5) (by rfl) rfl), ⟨by decide, by decide, by decide +kernel⟩, by decide⟩
theorem qv_G_91 : gLv "GossipNodes" 91 qy_M_tell qw_M_tell 1 := ⟨qc_M_tell, 2, _, rfl, qi_M_tell, (gTb_2 (i := 202) (by rfl) rfl), (gTb_2 (i := 203) (by rfl) rfl), (gTb_2 (i := 204) (by rfl) rfl), (gTb_1 (i := 4) (by rfl) rfl), ⟨by decide, by decide, by decide +kernel⟩, by decide⟩
theorem qv_G_101 : gLv "GossipNodes" 101 qy_E_tell qw_E_tell 1 := ⟨qc_E_tell, 2, _, rfl, qi_E_tell, (gTb_2 (i := 214) (by rfl) rfl), (gTb_2 (i := 215) (by rfl) rfl), (gTb_2 (i := 216) (by rfl) rfl), (gTb_1 (i := 6) (by rfl) rfl), ⟨by decide, by decide, by decide +kernel⟩, by decide⟩
theorem qv_G_104 : gLv "GossipNodes" 104 qy_N_tell qw_N_tell 1 := ⟨qc_N_tell, 2, _, rfl, qi_N_tell, (gTb_2 (i := 223) (by rfl) rfl), (gTb_2 (i := 224) (by rfl) rfl), (gTb_2 (i := 225) (by rfl) rfl), (gTb_1 (i := 5) (by rfl) rfl), ⟨by decide, by decide, by decide +kernel⟩, by decide⟩
theorem qv_G_108 : gLv "GossipNodes" 108 qy_G_seesJustTheRunning qw_G_seesJustTheRunning 1 := ⟨qc_G_seesJustTheRunning, 4, _, rfl, qi_G_seesJustTheRunning, (gTb_2 (i := 239) (by rfl) rfl), (gTb_3 (i := 1) (by rfl) rfl), (gTb_sel (i := 24) (by rfl)), (gTb_1 (i := 1) (by rfl) rfl), ⟨by decide, by decide, by decide +kernel⟩, by decide⟩
theorem qv_G_112 : gLv "GossipNodes" 112 qy_F_land qw_F_land 0 := ⟨qc_F_land, 3, _, rfl, qi_F_land, (gTb_2 (i := 92) (by rfl) rfl), (gTb_2 (i := 93) (by rfl) rfl), (gTb_2 (i := 94) (by rfl) rfl), (gTb_1 (i := 3) (by rfl) rfl), ⟨by decide, by decide, by decide +kernel⟩, by decide⟩
theorem qv_G_124 : gLv "GossipNodes" 124 qy_N_receive qw_N_receive 2 := ⟨qc_N_receive, 5, _, rfl, qi_N_receive, (gTb_2 (i := 96) (by rfl) rfl), (gTb_2 (i := 97) (by rfl) rfl), (gTb_2 (i := 98) (by rfl) rfl), (gTb_1 (i := 5) (by rfl) rfl), ⟨by decide, by decide, by decide +kernel⟩, by decide⟩
theorem qv_E_27 : gLv "GossipNodes$Entry" 27 qy_E_announce qw_E_announce 0 := ⟨qc_E_announce, 1, _, rfl, qi_E_announce, (gTb_2 (i := 7) (by rfl) rfl), (gTb_2 (i := 8) (by rfl) rfl), (gTb_2 (i := 9) (by rfl) rfl), (gTb_1 (i := 6) (by rfl) rfl), ⟨by decide, by decide, by decide +kernel⟩, by decide⟩
theorem qv_E_30 : gLv "GossipNodes$Entry" 30 qy_E_become qw_E_become 3 := ⟨qc_E_become, 4, _, rfl, qi_E_become, (gTb_2 (i := 122) (by rfl) rfl), (gTb_2 (i := 4) (by rfl) rfl), (gTb_2 (i := 5) (by rfl) rfl), (gTb_1 (i := 6) (by rfl) rfl), ⟨by decide, by decide, by decide +kernel⟩, by decide⟩
theorem qs_E_34 : gLs "GossipNodes$Entry" 34 qy_J_bitCount qw_J_bitCount 1 := ⟨qc_J_bitCount, 1, _, rfl, qi_J_bitCount, (gTb_2 (i := 218) (by rfl) rfl), (gTb_2 (i := 160) (by rfl) rfl), (gTb_1 (i := 9) (by rfl) rfl), ⟨by decide, by decide, by decide +kernel⟩, by decide⟩
theorem qv_M_45 : gLv "GossipNodes$Message" 45 qy_M_tellNews qw_M_tellNews 1 := ⟨qc_M_tellNews, 2, _, rfl, qi_M_tellNews, (gTb_2 (i := 206) (by rfl) rfl), (gTb_2 (i := 208) (by rfl) rfl), (gTb_sel (i := 22) (by rfl)), (gTb_1 (i := 4) (by rfl) rfl), ⟨by decide, by decide, by decide +kernel⟩, by decide⟩
theorem qv_N_36 : gLv "GossipNodes$Node" 36 qy_E_forget qw_E_forget 0 := ⟨qc_E_forget, 1, _, rfl, qi_E_forget, (gTb_1 (i := 239) (by rfl) rfl), (gTb_2 (i := 0) (by rfl) rfl), (gTb_2 (i := 1) (by rfl) rfl), (gTb_1 (i := 6) (by rfl) rfl), ⟨by decide, by decide, by decide +kernel⟩, by decide⟩
theorem qv_N_39 : gLv "GossipNodes$Node" 39 qy_E_become qw_E_become 3 := ⟨qc_E_become, 4, _, rfl, qi_E_become, (gTb_2 (i := 3) (by rfl) rfl), (gTb_2 (i := 4) (by rfl) rfl), (gTb_2 (i := 5) (by rfl) rfl), (gTb_1 (i := 6) (by rfl) rfl), ⟨by decide, by decide, by decide +kernel⟩, by decide⟩
theorem qv_N_89 : gLv "GossipNodes$Node" 89 qy_N_send qw_N_send 5 := ⟨qc_N_send, 7, _, rfl, qi_N_send, (gTb_2 (i := 59) (by rfl) rfl), (gTb_2 (i := 12) (by rfl) rfl), (gTb_2 (i := 13) (by rfl) rfl), (gTb_1 (i := 5) (by rfl) rfl), ⟨by decide, by decide, by decide +kernel⟩, by decide⟩
theorem qv_N_93 : gLv "GossipNodes$Node" 93 qy_F_next qw_F_next 0 := ⟨qc_F_next, 1, _, rfl, qi_F_next, (gTb_2 (i := 15) (by rfl) rfl), (gTb_2 (i := 16) (by rfl) rfl), (gTb_2 (i := 17) (by rfl) rfl), (gTb_1 (i := 3) (by rfl) rfl), ⟨by decide, by decide, by decide +kernel⟩, by decide⟩
theorem qv_N_99 : gLv "GossipNodes$Node" 99 qy_M_address qw_M_address 3 := ⟨qc_M_address, 4, _, rfl, qi_M_address, (gTb_2 (i := 19) (by rfl) rfl), (gTb_2 (i := 20) (by rfl) rfl), (gTb_2 (i := 21) (by rfl) rfl), (gTb_1 (i := 4) (by rfl) rfl), ⟨by decide, by decide, by decide +kernel⟩, by decide⟩
theorem qv_N_104 : gLv "GossipNodes$Node" 104 qy_M_concern qw_M_concern 3 := ⟨qc_M_concern, 4, _, rfl, qi_M_concern, (gTb_2 (i := 23) (by rfl) rfl), (gTb_2 (i := 24) (by rfl) rfl), (gTb_2 (i := 25) (by rfl) rfl), (gTb_1 (i := 4) (by rfl) rfl), ⟨by decide, by decide, by decide +kernel⟩, by decide⟩
theorem qv_N_107 : gLv "GossipNodes$Node" 107 qy_N_loadTable qw_N_loadTable 1 := ⟨qc_N_loadTable, 3, _, rfl, qi_N_loadTable, (gTb_2 (i := 27) (by rfl) rfl), (gTb_2 (i := 29) (by rfl) rfl), (gTb_sel (i := 1) (by rfl)), (gTb_1 (i := 5) (by rfl) rfl), ⟨by decide, by decide, by decide +kernel⟩, by decide⟩
theorem qv_N_111 : gLv "GossipNodes$Node" 111 qy_N_loadQueued qw_N_loadQueued 1 := ⟨qc_N_loadQueued, 5, _, rfl, qi_N_loadQueued, (gTb_2 (i := 35) (by rfl) rfl), (gTb_2 (i := 37) (by rfl) rfl), (gTb_sel (i := 2) (by rfl)), (gTb_1 (i := 5) (by rfl) rfl), ⟨by decide, by decide, by decide +kernel⟩, by decide⟩
theorem qv_N_114 : gLv "GossipNodes$Node" 114 qy_M_carry qw_M_carry 2 := ⟨qc_M_carry, 4, _, rfl, qi_M_carry, (gTb_2 (i := 31) (by rfl) rfl), (gTb_2 (i := 32) (by rfl) rfl), (gTb_2 (i := 33) (by rfl) rfl), (gTb_1 (i := 4) (by rfl) rfl), ⟨by decide, by decide, by decide +kernel⟩, by decide⟩
theorem qv_N_118 : gLv "GossipNodes$Node" 118 qy_N_mostToSend qw_N_mostToSend 1 := ⟨qc_N_mostToSend, 5, _, rfl, qi_N_mostToSend, (gTb_2 (i := 39) (by rfl) rfl), (gTb_2 (i := 41) (by rfl) rfl), (gTb_sel (i := 3) (by rfl)), (gTb_1 (i := 5) (by rfl) rfl), ⟨by decide, by decide, by decide +kernel⟩, by decide⟩
theorem qv_N_135 : gLv "GossipNodes$Node" 135 qy_N_learn qw_N_learn 5 := ⟨qc_N_learn, 7, _, rfl, qi_N_learn, (gTb_2 (i := 100) (by rfl) rfl), (gTb_2 (i := 102) (by rfl) rfl), (gTb_sel (i := 7) (by rfl)), (gTb_1 (i := 5) (by rfl) rfl), ⟨by decide, by decide, by decide +kernel⟩, by decide⟩
theorem qv_N_150 : gLv "GossipNodes$Node" 150 qy_N_takeAck qw_N_takeAck 1 := ⟨qc_N_takeAck, 3, _, rfl, qi_N_takeAck, (gTb_2 (i := 127) (by rfl) rfl), (gTb_2 (i := 129) (by rfl) rfl), (gTb_sel (i := 10) (by rfl)), (gTb_1 (i := 5) (by rfl) rfl), ⟨by decide, by decide, by decide +kernel⟩, by decide⟩
theorem qv_N_153 : gLv "GossipNodes$Node" 153 qy_N_takeAsk qw_N_takeAsk 1 := ⟨qc_N_takeAsk, 3, _, rfl, qi_N_takeAsk, (gTb_2 (i := 143) (by rfl) rfl), (gTb_2 (i := 145) (by rfl) rfl), (gTb_sel (i := 13) (by rfl)), (gTb_1 (i := 5) (by rfl) rfl), ⟨by decide, by decide, by decide +kernel⟩, by decide⟩
theorem qv_N_156 : gLv "GossipNodes$Node" 156 qy_N_isOfProbe qw_N_isOfProbe 1 := ⟨qc_N_isOfProbe, 2, _, rfl, qi_N_isOfProbe, (gTb_2 (i := 131) (by rfl) rfl), (gTb_2 (i := 133) (by rfl) rfl), (gTb_sel (i := 11) (by rfl)), (gTb_1 (i := 5) (by rfl) rfl), ⟨by decide, by decide, by decide +kernel⟩, by decide⟩
theorem qv_N_160 : gLv "GossipNodes$Node" 160 qy_N_refute qw_N_refute 2 := ⟨qc_N_refute, 4, _, rfl, qi_N_refute, (gTb_2 (i := 104) (by rfl) rfl), (gTb_2 (i := 106) (by rfl) rfl), (gTb_sel (i := 8) (by rfl)), (gTb_1 (i := 5) (by rfl) rfl), ⟨by decide, by decide, by decide +kernel⟩, by decide⟩
theorem qv_N_164 : gLv "GossipNodes$Node" 164 qy_E_isBelow qw_E_isBelow 2 := ⟨qc_E_isBelow, 3, _, rfl, qi_E_isBelow, (gTb_2 (i := 114) (by rfl) rfl), (gTb_2 (i := 115) (by rfl) rfl), (gTb_2 (i := 116) (by rfl) rfl), (gTb_1 (i := 6) (by rfl) rfl), ⟨by decide, by decide, by decide +kernel⟩, by decide⟩
theorem qv_N_168 : gLv "GossipNodes$Node" 168 qy_E_becomeSuspect qw_E_becomeSuspect 3 := ⟨qc_E_becomeSuspect, 4, _, rfl, qi_E_becomeSuspect, (gTb_2 (i := 118) (by rfl) rfl), (gTb_2 (i := 119) (by rfl) rfl), (gTb_2 (i := 120) (by rfl) rfl), (gTb_1 (i := 6) (by rfl) rfl), ⟨by decide, by decide, by decide +kernel⟩, by decide⟩
theorem qv_N_171 : gLv "GossipNodes$Node" 171 qy_E_isSameSuspicion qw_E_isSameSuspicion 2 := ⟨qc_E_isSameSuspicion, 3, _, rfl, qi_E_isSameSuspicion, (gTb_2 (i := 123) (by rfl) rfl), (gTb_2 (i := 124) (by rfl) rfl), (gTb_2 (i := 125) (by rfl) rfl), (gTb_1 (i := 6) (by rfl) rfl), ⟨by decide, by decide, by decide +kernel⟩, by decide⟩
theorem qv_N_177 : gLv "GossipNodes$Node" 177 qy_N_raiseScore qw_N_raiseScore 1 := ⟨qc_N_raiseScore, 2, _, rfl, qi_N_raiseScore, (gTb_2 (i := 108) (by rfl) rfl), (gTb_2 (i := 110) (by rfl) rfl), (gTb_sel (i := 9) (by rfl)), (gTb_1 (i := 5) (by rfl) rfl), ⟨by decide, by decide, by decide +kernel⟩, by decide⟩
theorem qv_N_181 : gLv "GossipNodes$Node" 181 qy_E_announce qw_E_announce 0 := ⟨qc_E_announce, 1, _, rfl, qi_E_announce, (gTb_2 (i := 113) (by rfl) rfl), (gTb_2 (i := 8) (by rfl) rfl), (gTb_2 (i := 9) (by rfl) rfl), (gTb_1 (i := 6) (by rfl) rfl), ⟨by decide, by decide, by decide +kernel⟩, by decide⟩
theorem qv_N_190 : gLv "GossipNodes$Node" 190 qy_R_isFor qw_R_isFor 1 := ⟨qc_R_isFor, 2, _, rfl, qi_R_isFor, (gTb_2 (i := 135) (by rfl) rfl), (gTb_2 (i := 136) (by rfl) rfl), (gTb_2 (i := 137) (by rfl) rfl), (gTb_1 (i := 7) (by rfl) rfl), ⟨by decide, by decide, by decide +kernel⟩, by decide⟩
theorem qv_N_193 : gLv "GossipNodes$Node" 193 qy_N_endRelay qw_N_endRelay 1 := ⟨qc_N_endRelay, 4, _, rfl, qi_N_endRelay, (gTb_2 (i := 139) (by rfl) rfl), (gTb_2 (i := 141) (by rfl) rfl), (gTb_sel (i := 12) (by rfl)), (gTb_1 (i := 5) (by rfl) rfl), ⟨by decide, by decide, by decide +kernel⟩, by decide⟩
theorem qv_N_202 : gLv "GossipNodes$Node" 202 qy_N_ageRelays qw_N_ageRelays 0 := ⟨qc_N_ageRelays, 5, _, rfl, qi_N_ageRelays, (gTb_2 (i := 151) (by rfl) rfl), (gTb_2 (i := 153) (by rfl) rfl), (gTb_sel (i := 14) (by rfl)), (gTb_1 (i := 5) (by rfl) rfl), ⟨by decide, by decide, by decide +kernel⟩, by decide⟩
theorem qv_N_205 : gLv "GossipNodes$Node" 205 qy_N_buryOverdue qw_N_buryOverdue 1 := ⟨qc_N_buryOverdue, 5, _, rfl, qi_N_buryOverdue, (gTb_2 (i := 155) (by rfl) rfl), (gTb_2 (i := 157) (by rfl) rfl), (gTb_sel (i := 15) (by rfl)), (gTb_1 (i := 5) (by rfl) rfl), ⟨by decide, by decide, by decide +kernel⟩, by decide⟩
theorem qv_N_208 : gLv "GossipNodes$Node" 208 qy_N_restOrProbe qw_N_restOrProbe 0 := ⟨qc_N_restOrProbe, 2, _, rfl, qi_N_restOrProbe, (gTb_2 (i := 165) (by rfl) rfl), (gTb_2 (i := 167) (by rfl) rfl), (gTb_sel (i := 16) (by rfl)), (gTb_1 (i := 5) (by rfl) rfl), ⟨by decide, by decide, by decide +kernel⟩, by decide⟩
theorem qv_N_211 : gLv "GossipNodes$Node" 211 qy_N_goOnProbing qw_N_goOnProbing 1 := ⟨qc_N_goOnProbing, 2, _, rfl, qi_N_goOnProbing, (gTb_2 (i := 173) (by rfl) rfl), (gTb_2 (i := 175) (by rfl) rfl), (gTb_sel (i := 18) (by rfl)), (gTb_1 (i := 5) (by rfl) rfl), ⟨by decide, by decide, by decide +kernel⟩, by decide⟩
theorem qv_N_214 : gLv "GossipNodes$Node" 214 qy_N_syncWithNext qw_N_syncWithNext 0 := ⟨qc_N_syncWithNext, 2, _, rfl, qi_N_syncWithNext, (gTb_2 (i := 186) (by rfl) rfl), (gTb_2 (i := 188) (by rfl) rfl), (gTb_sel (i := 21) (by rfl)), (gTb_1 (i := 5) (by rfl) rfl), ⟨by decide, by decide, by decide +kernel⟩, by decide⟩
theorem qs_N_217 : gLs "GossipNodes$Node" 217 qy_J_bitCount qw_J_bitCount 1 := ⟨qc_J_bitCount, 1, _, rfl, qi_J_bitCount, (gTb_2 (i := 159) (by rfl) rfl), (gTb_2 (i := 160) (by rfl) rfl), (gTb_1 (i := 9) (by rfl) rfl), ⟨by decide, by decide, by decide +kernel⟩, by decide⟩
theorem qv_N_225 : gLv "GossipNodes$Node" 225 qy_N_nextBehind qw_N_nextBehind 2 := ⟨qc_N_nextBehind, 5, _, rfl, qi_N_nextBehind, (gTb_2 (i := 169) (by rfl) rfl), (gTb_2 (i := 171) (by rfl) rfl), (gTb_sel (i := 17) (by rfl)), (gTb_1 (i := 5) (by rfl) rfl), ⟨by decide, by decide, by decide +kernel⟩, by decide⟩
theorem qv_N_228 : gLv "GossipNodes$Node" 228 qy_N_askOthers qw_N_askOthers 0 := ⟨qc_N_askOthers, 3, _, rfl, qi_N_askOthers, (gTb_2 (i := 177) (by rfl) rfl), (gTb_2 (i := 179) (by rfl) rfl), (gTb_sel (i := 19) (by rfl)), (gTb_1 (i := 5) (by rfl) rfl), ⟨by decide, by decide, by decide +kernel⟩, by decide⟩
theorem qv_N_231 : gLv "GossipNodes$Node" 231 qy_N_endProbe qw_N_endProbe 1 := ⟨qc_N_endProbe, 3, _, rfl, qi_N_endProbe, (gTb_2 (i := 181) (by rfl) rfl), (gTb_2 (i := 183) (by rfl) rfl), (gTb_sel (i := 20) (by rfl)), (gTb_1 (i := 5) (by rfl) rfl), ⟨by decide, by decide, by decide +kernel⟩, by decide⟩
theorem qv_N_237 : gLv "GossipNodes$Node" 237 qy_N_countQueued qw_N_countQueued 0 := ⟨qc_N_countQueued, 3, _, rfl, qi_N_countQueued, (gTb_2 (i := 227) (by rfl) rfl), (gTb_2 (i := 229) (by rfl) rfl), (gTb_sel (i := 23) (by rfl)), (gTb_1 (i := 5) (by rfl) rfl), ⟨by decide, by decide, by decide +kernel⟩, by decide⟩
theorem qs_L_9 : gLs "GossipNodesLaw" 9 qy_L_cell qw_L_cell 2 := ⟨qc_L_cell, 2, _, rfl, qi_L_cell, (gTb_3 (i := 3) (by rfl) rfl), (gTb_3 (i := 4) (by rfl) rfl), (gTb_1 (i := 0) (by rfl) rfl), ⟨by decide, by decide, by decide +kernel⟩, by decide⟩
theorem qa_L_15 : gLi "GossipNodesLaw" 15 qy_G_init qw_G_init 1 := ⟨qc_G_init, 3, rfl, qi_G_init, (gTb_1 (i := 12) (by rfl) rfl), (gTb_1 (i := 13) (by rfl) rfl), (gTb_1 (i := 1) (by rfl) rfl), rfl, ⟨by decide, by decide, by decide +kernel⟩, by decide⟩
theorem qa_L_20 : gLi "GossipNodesLaw" 20 qy_Z_init qw_Z_init 1 := ⟨qc_Z_init, 2, rfl, qi_Z_init, (gTb_3 (i := 8) (by rfl) rfl), (gTb_3 (i := 9) (by rfl) rfl), (gTb_1 (i := 8) (by rfl) rfl), rfl, ⟨by decide, by decide, by decide +kernel⟩, by decide⟩
theorem qv_L_21 : gLv "GossipNodesLaw" 21 qy_G_start qw_G_start 2 := ⟨qc_G_start, 3, _, rfl, qi_G_start, (gTb_1 (i := 227) (by rfl) rfl), (gTb_1 (i := 228) (by rfl) rfl), (gTb_1 (i := 229) (by rfl) rfl), (gTb_1 (i := 1) (by rfl) rfl), ⟨by decide, by decide, by decide +kernel⟩, by decide⟩
theorem qv_L_25 : gLv "GossipNodesLaw" 25 qy_Z_start qw_Z_start 2 := ⟨qc_Z_start, 4, _, rfl, qi_Z_start, (gTb_3 (i := 98) (by rfl) rfl), (gTb_3 (i := 99) (by rfl) rfl), (gTb_3 (i := 100) (by rfl) rfl), (gTb_1 (i := 8) (by rfl) rfl), ⟨by decide, by decide, by decide +kernel⟩, by decide⟩
theorem qv_L_26 : gLv "GossipNodesLaw" 26 qy_G_crash qw_G_crash 1 := ⟨qc_G_crash, 2, _, rfl, qi_G_crash, (gTb_2 (i := 43) (by rfl) rfl), (gTb_2 (i := 44) (by rfl) rfl), (gTb_2 (i := 45) (by rfl) rfl), (gTb_1 (i := 1) (by rfl) rfl), ⟨by decide, by decide, by decide +kernel⟩, by decide⟩
theorem qv_L_30 : gLv "GossipNodesLaw" 30 qy_Z_crash qw_Z_crash 1 := ⟨qc_Z_crash, 2, _, rfl, qi_Z_crash, (gTb_3 (i := 134) (by rfl) rfl), (gTb_3 (i := 135) (by rfl) rfl), (gTb_3 (i := 136) (by rfl) rfl), (gTb_1 (i := 8) (by rfl) rfl), ⟨by decide, by decide, by decide +kernel⟩, by decide⟩
theorem qv_L_31 : gLv "GossipNodesLaw" 31 qy_G_leave qw_G_leave 1 := ⟨qc_G_leave, 2, _, rfl, qi_G_leave, (gTb_2 (i := 51) (by rfl) rfl), (gTb_2 (i := 52) (by rfl) rfl), (gTb_2 (i := 53) (by rfl) rfl), (gTb_1 (i := 1) (by rfl) rfl), ⟨by decide, by decide, by decide +kernel⟩, by decide⟩
theorem qv_L_34 : gLv "GossipNodesLaw" 34 qy_Z_leave qw_Z_leave 1 := ⟨qc_Z_leave, 3, _, rfl, qi_Z_leave, (gTb_3 (i := 142) (by rfl) rfl), (gTb_3 (i := 143) (by rfl) rfl), (gTb_3 (i := 144) (by rfl) rfl), (gTb_1 (i := 8) (by rfl) rfl), ⟨by decide, by decide, by decide +kernel⟩, by decide⟩
theorem qv_L_35 : gLv "GossipNodesLaw" 35 qy_G_cut qw_G_cut 3 := ⟨qc_G_cut, 4, _, rfl, qi_G_cut, (gTb_2 (i := 60) (by rfl) rfl), (gTb_2 (i := 61) (by rfl) rfl), (gTb_2 (i := 62) (by rfl) rfl), (gTb_1 (i := 1) (by rfl) rfl), ⟨by decide, by decide, by decide +kernel⟩, by decide⟩
theorem qv_L_39 : gLv "GossipNodesLaw" 39 qy_Z_cut qw_Z_cut 3 := ⟨qc_Z_cut, 4, _, rfl, qi_Z_cut, (gTb_3 (i := 146) (by rfl) rfl), (gTb_3 (i := 147) (by rfl) rfl), (gTb_3 (i := 148) (by rfl) rfl), (gTb_1 (i := 8) (by rfl) rfl), ⟨by decide, by decide, by decide +kernel⟩, by decide⟩
theorem qv_L_40 : gLv "GossipNodesLaw" 40 qy_G_drop qw_G_drop 1 := ⟨qc_G_drop, 2, _, rfl, qi_G_drop, (gTb_2 (i := 68) (by rfl) rfl), (gTb_2 (i := 69) (by rfl) rfl), (gTb_2 (i := 70) (by rfl) rfl), (gTb_1 (i := 1) (by rfl) rfl), ⟨by decide, by decide, by decide +kernel⟩, by decide⟩
theorem qv_L_43 : gLv "GossipNodesLaw" 43 qy_Z_drop qw_Z_drop 1 := ⟨qc_Z_drop, 2, _, rfl, qi_Z_drop, (gTb_3 (i := 150) (by rfl) rfl), (gTb_3 (i := 151) (by rfl) rfl), (gTb_3 (i := 152) (by rfl) rfl), (gTb_1 (i := 8) (by rfl) rfl), ⟨by decide, by decide, by decide +kernel⟩, by decide⟩
theorem qv_L_44 : gLv "GossipNodesLaw" 44 qy_G_swap qw_G_swap 1 := ⟨qc_G_swap, 2, _, rfl, qi_G_swap, (gTb_2 (i := 76) (by rfl) rfl), (gTb_2 (i := 77) (by rfl) rfl), (gTb_2 (i := 78) (by rfl) rfl), (gTb_1 (i := 1) (by rfl) rfl), ⟨by decide, by decide, by decide +kernel⟩, by decide⟩
theorem qv_L_47 : gLv "GossipNodesLaw" 47 qy_Z_swap qw_Z_swap 1 := ⟨qc_Z_swap, 4, _, rfl, qi_Z_swap, (gTb_3 (i := 158) (by rfl) rfl), (gTb_3 (i := 159) (by rfl) rfl), (gTb_3 (i := 160) (by rfl) rfl), (gTb_1 (i := 8) (by rfl) rfl), ⟨by decide, by decide, by decide +kernel⟩, by decide⟩
theorem qv_L_48 : gLv "GossipNodesLaw" 48 qy_G_ticks qw_G_ticks 1 := ⟨qc_G_ticks, 5, _, rfl, qi_G_ticks, (gTb_2 (i := 84) (by rfl) rfl), (gTb_2 (i := 85) (by rfl) rfl), (gTb_2 (i := 86) (by rfl) rfl), (gTb_1 (i := 1) (by rfl) rfl), ⟨by decide, by decide, by decide +kernel⟩, by decide⟩
theorem qv_L_52 : gLv "GossipNodesLaw" 52 qy_Z_ticks qw_Z_ticks 1 := ⟨qc_Z_ticks, 6, _, rfl, qi_Z_ticks, (gTb_3 (i := 162) (by rfl) rfl), (gTb_3 (i := 163) (by rfl) rfl), (gTb_3 (i := 164) (by rfl) rfl), (gTb_1 (i := 8) (by rfl) rfl), ⟨by decide, by decide, by decide +kernel⟩, by decide⟩
theorem qv_L_53 : gLv "GossipNodesLaw" 53 qy_G_now qw_G_now 0 := ⟨qc_G_now, 1, _, rfl, qi_G_now, (gTb_2 (i := 190) (by rfl) rfl), (gTb_2 (i := 191) (by rfl) rfl), (gTb_2 (i := 192) (by rfl) rfl), (gTb_1 (i := 1) (by rfl) rfl), ⟨by decide, by decide, by decide +kernel⟩, by decide⟩
theorem qv_L_57 : gLv "GossipNodesLaw" 57 qy_Z_now qw_Z_now 0 := ⟨qc_Z_now, 1, _, rfl, qi_Z_now, (gTb_3 (i := 225) (by rfl) rfl), (gTb_3 (i := 226) (by rfl) rfl), (gTb_3 (i := 227) (by rfl) rfl), (gTb_1 (i := 8) (by rfl) rfl), ⟨by decide, by decide, by decide +kernel⟩, by decide⟩
theorem qv_L_58 : gLv "GossipNodesLaw" 58 qy_G_flight qw_G_flight 0 := ⟨qc_G_flight, 1, _, rfl, qi_G_flight, (gTb_2 (i := 194) (by rfl) rfl), (gTb_2 (i := 195) (by rfl) rfl), (gTb_2 (i := 196) (by rfl) rfl), (gTb_1 (i := 1) (by rfl) rfl), ⟨by decide, by decide, by decide +kernel⟩, by decide⟩
theorem qv_L_61 : gLv "GossipNodesLaw" 61 qy_Z_flight qw_Z_flight 0 := ⟨qc_Z_flight, 1, _, rfl, qi_Z_flight, (gTb_3 (i := 229) (by rfl) rfl), (gTb_3 (i := 230) (by rfl) rfl), (gTb_3 (i := 231) (by rfl) rfl), (gTb_1 (i := 8) (by rfl) rfl), ⟨by decide, by decide, by decide +kernel⟩, by decide⟩
theorem qv_L_62 : gLv "GossipNodesLaw" 62 qy_G_message qw_G_message 2 := ⟨qc_G_message, 3, _, rfl, qi_G_message, (gTb_2 (i := 198) (by rfl) rfl), (gTb_2 (i := 199) (by rfl) rfl), (gTb_2 (i := 200) (by rfl) rfl), (gTb_1 (i := 1) (by rfl) rfl), ⟨by decide, by decide, by decide +kernel⟩, by decide⟩
theorem qv_L_66 : gLv "GossipNodesLaw" 66 qy_Z_message qw_Z_message 2 := ⟨qc_Z_message, 3, _, rfl, qi_Z_message, (gTb_3 (i := 233) (by rfl) rfl), (gTb_3 (i := 234) (by rfl) rfl), (gTb_3 (i := 235) (by rfl) rfl), (gTb_1 (i := 8) (by rfl) rfl), ⟨by decide, by decide, by decide +kernel⟩, by decide⟩
theorem qv_L_67 : gLv "GossipNodesLaw" 67 qy_G_view qw_G_view 3 := ⟨qc_G_view, 4, _, rfl, qi_G_view, (gTb_2 (i := 210) (by rfl) rfl), (gTb_2 (i := 211) (by rfl) rfl), (gTb_2 (i := 212) (by rfl) rfl), (gTb_1 (i := 1) (by rfl) rfl), ⟨by decide, by decide, by decide +kernel⟩, by decide⟩
theorem qv_L_71 : gLv "GossipNodesLaw" 71 qy_Z_view qw_Z_view 3 := ⟨qc_Z_view, 5, _, rfl, qi_Z_view, (gTb_3 (i := 237) (by rfl) rfl), (gTb_3 (i := 238) (by rfl) rfl), (gTb_3 (i := 239) (by rfl) rfl), (gTb_1 (i := 8) (by rfl) rfl), ⟨by decide, by decide, by decide +kernel⟩, by decide⟩
theorem qv_L_72 : gLv "GossipNodesLaw" 72 qy_G_node qw_G_node 2 := ⟨qc_G_node, 3, _, rfl, qi_G_node, (gTb_2 (i := 219) (by rfl) rfl), (gTb_2 (i := 220) (by rfl) rfl), (gTb_2 (i := 221) (by rfl) rfl), (gTb_1 (i := 1) (by rfl) rfl), ⟨by decide, by decide, by decide +kernel⟩, by decide⟩
theorem qv_L_75 : gLv "GossipNodesLaw" 75 qy_Z_node qw_Z_node 2 := ⟨qc_Z_node, 3, _, rfl, qi_Z_node, (gTb_4 (i := 1) (by rfl) rfl), (gTb_4 (i := 2) (by rfl) rfl), (gTb_4 (i := 3) (by rfl) rfl), (gTb_1 (i := 8) (by rfl) rfl), ⟨by decide, by decide, by decide +kernel⟩, by decide⟩
theorem qv_L_76 : gLv "GossipNodesLaw" 76 qy_G_queued qw_G_queued 2 := ⟨qc_G_queued, 3, _, rfl, qi_G_queued, (gTb_2 (i := 231) (by rfl) rfl), (gTb_2 (i := 232) (by rfl) rfl), (gTb_2 (i := 233) (by rfl) rfl), (gTb_1 (i := 1) (by rfl) rfl), ⟨by decide, by decide, by decide +kernel⟩, by decide⟩
theorem qv_L_79 : gLv "GossipNodesLaw" 79 qy_Z_queued qw_Z_queued 2 := ⟨qc_Z_queued, 3, _, rfl, qi_Z_queued, (gTb_4 (i := 9) (by rfl) rfl), (gTb_4 (i := 10) (by rfl) rfl), (gTb_4 (i := 11) (by rfl) rfl), (gTb_1 (i := 8) (by rfl) rfl), ⟨by decide, by decide, by decide +kernel⟩, by decide⟩
theorem qv_L_80 : gLv "GossipNodesLaw" 80 qy_G_agreed qw_G_agreed 0 := ⟨qc_G_agreed, 2, _, rfl, qi_G_agreed, (gTb_2 (i := 235) (by rfl) rfl), (gTb_2 (i := 236) (by rfl) rfl), (gTb_2 (i := 237) (by rfl) rfl), (gTb_1 (i := 1) (by rfl) rfl), ⟨by decide, by decide, by decide +kernel⟩, by decide⟩
theorem qv_L_84 : gLv "GossipNodesLaw" 84 qy_Z_agreed qw_Z_agreed 0 := ⟨qc_Z_agreed, 5, _, rfl, qi_Z_agreed, (gTb_4 (i := 13) (by rfl) rfl), (gTb_4 (i := 14) (by rfl) rfl), (gTb_4 (i := 15) (by rfl) rfl), (gTb_1 (i := 8) (by rfl) rfl), ⟨by decide, by decide, by decide +kernel⟩, by decide⟩
theorem qv_Z_90 : gLv "GossipNodesModel" 90 qy_Z_isNode qw_Z_isNode 1 := ⟨qc_Z_isNode, 2, _, rfl, qi_Z_isNode, (gTb_3 (i := 102) (by rfl) rfl), (gTb_3 (i := 104) (by rfl) rfl), (gTb_sel (i := 25) (by rfl)), (gTb_1 (i := 8) (by rfl) rfl), ⟨by decide, by decide, by decide +kernel⟩, by decide⟩
theorem qv_Z_94 : gLv "GossipNodesModel" 94 qy_Z_mostQueued qw_Z_mostQueued 1 := ⟨qc_Z_mostQueued, 4, _, rfl, qi_Z_mostQueued, (gTb_3 (i := 122) (by rfl) rfl), (gTb_3 (i := 124) (by rfl) rfl), (gTb_sel (i := 30) (by rfl)), (gTb_1 (i := 8) (by rfl) rfl), ⟨by decide, by decide, by decide +kernel⟩, by decide⟩
theorem qv_Z_98 : gLv "GossipNodesModel" 98 qy_Z_addNews qw_Z_addNews 3 := ⟨qc_Z_addNews, 5, _, rfl, qi_Z_addNews, (gTb_3 (i := 126) (by rfl) rfl), (gTb_3 (i := 128) (by rfl) rfl), (gTb_sel (i := 31) (by rfl)), (gTb_1 (i := 8) (by rfl) rfl), ⟨by decide, by decide, by decide +kernel⟩, by decide⟩
theorem qv_Z_102 : gLv "GossipNodesModel" 102 qy_Z_addQueued qw_Z_addQueued 1 := ⟨qc_Z_addQueued, 4, _, rfl, qi_Z_addQueued, (gTb_3 (i := 118) (by rfl) rfl), (gTb_3 (i := 120) (by rfl) rfl), (gTb_sel (i := 29) (by rfl)), (gTb_1 (i := 8) (by rfl) rfl), ⟨by decide, by decide, by decide +kernel⟩, by decide⟩
theorem qv_Z_106 : gLv "GossipNodesModel" 106 qy_Z_addTable qw_Z_addTable 1 := ⟨qc_Z_addTable, 3, _, rfl, qi_Z_addTable, (gTb_3 (i := 130) (by rfl) rfl), (gTb_3 (i := 132) (by rfl) rfl), (gTb_sel (i := 32) (by rfl)), (gTb_1 (i := 8) (by rfl) rfl), ⟨by decide, by decide, by decide +kernel⟩, by decide⟩
theorem qv_Z_115 : gLv "GossipNodesModel" 115 qy_Z_announce qw_Z_announce 4 := ⟨qc_Z_announce, 5, _, rfl, qi_Z_announce, (gTb_3 (i := 110) (by rfl) rfl), (gTb_3 (i := 112) (by rfl) rfl), (gTb_sel (i := 27) (by rfl)), (gTb_1 (i := 8) (by rfl) rfl), ⟨by decide, by decide, by decide +kernel⟩, by decide⟩
theorem qv_Z_119 : gLv "GossipNodesModel" 119 qy_Z_enter qw_Z_enter 5 := ⟨qc_Z_enter, 7, _, rfl, qi_Z_enter, (gTb_3 (i := 106) (by rfl) rfl), (gTb_3 (i := 108) (by rfl) rfl), (gTb_sel (i := 26) (by rfl)), (gTb_1 (i := 8) (by rfl) rfl), ⟨by decide, by decide, by decide +kernel⟩, by decide⟩
theorem qv_Z_123 : gLv "GossipNodesModel" 123 qy_Z_send qw_Z_send 6 := ⟨qc_Z_send, 8, _, rfl, qi_Z_send, (gTb_3 (i := 114) (by rfl) rfl), (gTb_3 (i := 116) (by rfl) rfl), (gTb_sel (i := 28) (by rfl)), (gTb_1 (i := 8) (by rfl) rfl), ⟨by decide, by decide, by decide +kernel⟩, by decide⟩
theorem qv_Z_127 : gLv "GossipNodesModel" 127 qy_Z_isRunning qw_Z_isRunning 1 := ⟨qc_Z_isRunning, 2, _, rfl, qi_Z_isRunning, (gTb_3 (i := 138) (by rfl) rfl), (gTb_3 (i := 140) (by rfl) rfl), (gTb_sel (i := 33) (by rfl)), (gTb_1 (i := 8) (by rfl) rfl), ⟨by decide, by decide, by decide +kernel⟩, by decide⟩
theorem qv_Z_130 : gLv "GossipNodesModel" 130 qy_Z_remove qw_Z_remove 1 := ⟨qc_Z_remove, 3, _, rfl, qi_Z_remove, (gTb_3 (i := 154) (by rfl) rfl), (gTb_3 (i := 156) (by rfl) rfl), (gTb_sel (i := 34) (by rfl)), (gTb_1 (i := 8) (by rfl) rfl), ⟨by decide, by decide, by decide +kernel⟩, by decide⟩
theorem qv_Z_133 : gLv "GossipNodesModel" 133 qy_Z_relayOf qw_Z_relayOf 4 := ⟨qc_Z_relayOf, 8, _, rfl, qi_Z_relayOf, (gTb_3 (i := 178) (by rfl) rfl), (gTb_3 (i := 180) (by rfl) rfl), (gTb_sel (i := 38) (by rfl)), (gTb_1 (i := 8) (by rfl) rfl), ⟨by decide, by decide, by decide +kernel⟩, by decide⟩
theorem qv_Z_137 : gLv "GossipNodesModel" 137 qy_Z_removeRelay qw_Z_removeRelay 2 := ⟨qc_Z_removeRelay, 4, _, rfl, qi_Z_removeRelay, (gTb_3 (i := 182) (by rfl) rfl), (gTb_3 (i := 184) (by rfl) rfl), (gTb_sel (i := 39) (by rfl)), (gTb_1 (i := 8) (by rfl) rfl), ⟨by decide, by decide, by decide +kernel⟩, by decide⟩
theorem qv_Z_141 : gLv "GossipNodesModel" 141 qy_Z_learn qw_Z_learn 5 := ⟨qc_Z_learn, 9, _, rfl, qi_Z_learn, (gTb_3 (i := 170) (by rfl) rfl), (gTb_3 (i := 172) (by rfl) rfl), (gTb_sel (i := 36) (by rfl)), (gTb_1 (i := 8) (by rfl) rfl), ⟨by decide, by decide, by decide +kernel⟩, by decide⟩
theorem qv_Z_144 : gLv "GossipNodesModel" 144 qy_Z_acknowledged qw_Z_acknowledged 4 := ⟨qc_Z_acknowledged, 6, _, rfl, qi_Z_acknowledged, (gTb_3 (i := 174) (by rfl) rfl), (gTb_3 (i := 176) (by rfl) rfl), (gTb_sel (i := 37) (by rfl)), (gTb_1 (i := 8) (by rfl) rfl), ⟨by decide, by decide, by decide +kernel⟩, by decide⟩
theorem qv_Z_147 : gLv "GossipNodesModel" 147 qy_Z_help qw_Z_help 4 := ⟨qc_Z_help, 6, _, rfl, qi_Z_help, (gTb_3 (i := 186) (by rfl) rfl), (gTb_3 (i := 188) (by rfl) rfl), (gTb_sel (i := 40) (by rfl)), (gTb_1 (i := 8) (by rfl) rfl), ⟨by decide, by decide, by decide +kernel⟩, by decide⟩
theorem qs_Z_150 : gLs "GossipNodesModel" 150 qy_Z_count qw_Z_count 1 := ⟨qc_Z_count, 3, _, rfl, qi_Z_count, (gTb_3 (i := 202) (by rfl) rfl), (gTb_3 (i := 203) (by rfl) rfl), (gTb_1 (i := 8) (by rfl) rfl), ⟨by decide, by decide, by decide +kernel⟩, by decide⟩
theorem qv_Z_153 : gLv "GossipNodesModel" 153 qy_Z_nextOf qw_Z_nextOf 4 := ⟨qc_Z_nextOf, 8, _, rfl, qi_Z_nextOf, (gTb_3 (i := 213) (by rfl) rfl), (gTb_3 (i := 215) (by rfl) rfl), (gTb_sel (i := 46) (by rfl)), (gTb_1 (i := 8) (by rfl) rfl), ⟨by decide, by decide, by decide +kernel⟩, by decide⟩
theorem qv_Z_157 : gLv "GossipNodesModel" 157 qy_Z_begin qw_Z_begin 1 := ⟨qc_Z_begin, 3, _, rfl, qi_Z_begin, (gTb_3 (i := 209) (by rfl) rfl), (gTb_3 (i := 211) (by rfl) rfl), (gTb_sel (i := 45) (by rfl)), (gTb_1 (i := 8) (by rfl) rfl), ⟨by decide, by decide, by decide +kernel⟩, by decide⟩
theorem qv_Z_160 : gLv "GossipNodesModel" 160 qy_Z_askOthers qw_Z_askOthers 1 := ⟨qc_Z_askOthers, 4, _, rfl, qi_Z_askOthers, (gTb_3 (i := 217) (by rfl) rfl), (gTb_3 (i := 219) (by rfl) rfl), (gTb_sel (i := 47) (by rfl)), (gTb_1 (i := 8) (by rfl) rfl), ⟨by decide, by decide, by decide +kernel⟩, by decide⟩
theorem qv_Z_163 : gLv "GossipNodesModel" 163 qy_Z_end qw_Z_end 1 := ⟨qc_Z_end, 5, _, rfl, qi_Z_end, (gTb_3 (i := 221) (by rfl) rfl), (gTb_3 (i := 223) (by rfl) rfl), (gTb_sel (i := 48) (by rfl)), (gTb_1 (i := 8) (by rfl) rfl), ⟨by decide, by decide, by decide +kernel⟩, by decide⟩
theorem qv_Z_166 : gLv "GossipNodesModel" 166 qy_Z_ageRelays qw_Z_ageRelays 1 := ⟨qc_Z_ageRelays, 5, _, rfl, qi_Z_ageRelays, (gTb_3 (i := 194) (by rfl) rfl), (gTb_3 (i := 196) (by rfl) rfl), (gTb_sel (i := 42) (by rfl)), (gTb_1 (i := 8) (by rfl) rfl), ⟨by decide, by decide, by decide +kernel⟩, by decide⟩
theorem qv_Z_169 : gLv "GossipNodesModel" 169 qy_Z_expire qw_Z_expire 1 := ⟨qc_Z_expire, 5, _, rfl, qi_Z_expire, (gTb_3 (i := 198) (by rfl) rfl), (gTb_3 (i := 200) (by rfl) rfl), (gTb_sel (i := 43) (by rfl)), (gTb_1 (i := 8) (by rfl) rfl), ⟨by decide, by decide, by decide +kernel⟩, by decide⟩
theorem qv_Z_172 : gLv "GossipNodesModel" 172 qy_Z_probe qw_Z_probe 1 := ⟨qc_Z_probe, 2, _, rfl, qi_Z_probe, (gTb_3 (i := 205) (by rfl) rfl), (gTb_3 (i := 207) (by rfl) rfl), (gTb_sel (i := 44) (by rfl)), (gTb_1 (i := 8) (by rfl) rfl), ⟨by decide, by decide, by decide +kernel⟩, by decide⟩
theorem qv_Z_175 : gLv "GossipNodesModel" 175 qy_Z_arrive qw_Z_arrive 0 := ⟨qc_Z_arrive, 9, _, rfl, qi_Z_arrive, (gTb_3 (i := 166) (by rfl) rfl), (gTb_3 (i := 168) (by rfl) rfl), (gTb_sel (i := 35) (by rfl)), (gTb_1 (i := 8) (by rfl) rfl), ⟨by decide, by decide, by decide +kernel⟩, by decide⟩
theorem qv_Z_179 : gLv "GossipNodesModel" 179 qy_Z_time qw_Z_time 1 := ⟨qc_Z_time, 3, _, rfl, qi_Z_time, (gTb_3 (i := 190) (by rfl) rfl), (gTb_3 (i := 192) (by rfl) rfl), (gTb_sel (i := 41) (by rfl)), (gTb_1 (i := 8) (by rfl) rfl), ⟨by decide, by decide, by decide +kernel⟩, by decide⟩
theorem qv_Z_182 : gLv "GossipNodesModel" 182 qy_Z_newsOf qw_Z_newsOf 1 := ⟨qc_Z_newsOf, 4, _, rfl, qi_Z_newsOf, (gTb_4 (i := 5) (by rfl) rfl), (gTb_4 (i := 7) (by rfl) rfl), (gTb_sel (i := 49) (by rfl)), (gTb_1 (i := 8) (by rfl) rfl), ⟨by decide, by decide, by decide +kernel⟩, by decide⟩
theorem qm_G_9 : Cond.methodLink "GossipNodes" 9 Lib.Math.max.name ∈ gTb := (gTb_1 (i := 18) (by rfl) rfl)
theorem qm_G_15 : Cond.methodLink "GossipNodes" 15 Lib.Math.min.name ∈ gTb := (gTb_1 (i := 21) (by rfl) rfl)
theorem qm_N_184 : Cond.methodLink "GossipNodes$Node" 184 Lib.Math.min.name ∈ gTb := (gTb_2 (i := 112) (by rfl) rfl)
theorem qm_N_234 : Cond.methodLink "GossipNodes$Node" 234 Lib.Math.max.name ∈ gTb := (gTb_2 (i := 185) (by rfl) rfl)
theorem qm_max_s : Cond.static Lib.Math.max.name ∈ gTb := (gTb_1 (i := 19) (by rfl) rfl)
theorem qm_max_c : Cond.code Lib.Math.max.name Lib.Math.max.code 2 (some .int) ∈ gTb := (gTb_1 (i := 20) (by rfl) rfl)
theorem qm_min_s : Cond.static Lib.Math.min.name ∈ gTb := (gTb_1 (i := 22) (by rfl) rfl)
theorem qm_min_c : Cond.code Lib.Math.min.name Lib.Math.min.code 2 (some .int) ∈ gTb := (gTb_1 (i := 23) (by rfl) rfl)
theorem qm_i : Cond.initialized "java/lang/Math" ∈ gTb := (gTb_1 (i := 2) (by rfl) rfl)
theorem qk_J_265 : Cond.constant "java/lang/Integer" 265 (1431655765 : Int32) ∈ gTb := (gTb_2 (i := 162) (by rfl) rfl)
theorem qk_J_266 : Cond.constant "java/lang/Integer" 266 (858993459 : Int32) ∈ gTb := (gTb_2 (i := 163) (by rfl) rfl)
theorem qk_J_267 : Cond.constant "java/lang/Integer" 267 (252645135 : Int32) ∈ gTb := (gTb_2 (i := 164) (by rfl) rfl)
end
section
/-! decode rows (written by gen/names.py) -/
theorem qd_E_init_0 : decode qc_E_init 0 = .ok (.aload_n 0, 1) := by decide +kernel
theorem qd_E_init_1 : decode qc_E_init 1 = .ok (.invokespecial 3, 3) := by decide +kernel
theorem qd_E_init_4 : decode qc_E_init 4 = .ok (.return_, 1) := by decide +kernel
theorem qd_E_forget_0 : decode qc_E_forget 0 = .ok (.aload_n 0, 1) := by decide +kernel
theorem qd_E_forget_1 : decode qc_E_forget 1 = .ok (.iconst 0, 1) := by decide +kernel
theorem qd_E_forget_2 : decode qc_E_forget 2 = .ok (.putfield 9, 3) := by decide +kernel
theorem qd_E_forget_5 : decode qc_E_forget 5 = .ok (.aload_n 0, 1) := by decide +kernel
theorem qd_E_forget_6 : decode qc_E_forget 6 = .ok (.iconst 0, 1) := by decide +kernel
theorem qd_E_forget_7 : decode qc_E_forget 7 = .ok (.putfield 15, 3) := by decide +kernel
theorem qd_E_forget_10 : decode qc_E_forget 10 = .ok (.aload_n 0, 1) := by decide +kernel
theorem qd_E_forget_11 : decode qc_E_forget 11 = .ok (.iconst 0, 1) := by decide +kernel
theorem qd_E_forget_12 : decode qc_E_forget 12 = .ok (.putfield 18, 3) := by decide +kernel
theorem qd_E_forget_15 : decode qc_E_forget 15 = .ok (.aload_n 0, 1) := by decide +kernel
theorem qd_E_forget_16 : decode qc_E_forget 16 = .ok (.iconst 0, 1) := by decide +kernel
theorem qd_E_forget_17 : decode qc_E_forget 17 = .ok (.putfield 21, 3) := by decide +kernel
theorem qd_E_forget_20 : decode qc_E_forget 20 = .ok (.aload_n 0, 1) := by decide +kernel
theorem qd_E_forget_21 : decode qc_E_forget 21 = .ok (.iconst 0, 1) := by decide +kernel
theorem qd_E_forget_22 : decode qc_E_forget 22 = .ok (.putfield 24, 3) := by decide +kernel
theorem qd_E_forget_25 : decode qc_E_forget 25 = .ok (.return_, 1) := by decide +kernel
theorem qd_E_become_0 : decode qc_E_become 0 = .ok (.aload_n 0, 1) := by decide +kernel
theorem qd_E_become_1 : decode qc_E_become 1 = .ok (.iload_n 1, 1) := by decide +kernel
theorem qd_E_become_2 : decode qc_E_become 2 = .ok (.putfield 9, 3) := by decide +kernel
theorem qd_E_become_5 : decode qc_E_become 5 = .ok (.aload_n 0, 1) := by decide +kernel
theorem qd_E_become_6 : decode qc_E_become 6 = .ok (.iload_n 2, 1) := by decide +kernel
theorem qd_E_become_7 : decode qc_E_become 7 = .ok (.putfield 15, 3) := by decide +kernel
theorem qd_E_become_10 : decode qc_E_become 10 = .ok (.aload_n 0, 1) := by decide +kernel
theorem qd_E_become_11 : decode qc_E_become 11 = .ok (.iload_n 3, 1) := by decide +kernel
theorem qd_E_become_12 : decode qc_E_become 12 = .ok (.putfield 18, 3) := by decide +kernel
theorem qd_E_become_15 : decode qc_E_become 15 = .ok (.aload_n 0, 1) := by decide +kernel
theorem qd_E_become_16 : decode qc_E_become 16 = .ok (.iconst 0, 1) := by decide +kernel
theorem qd_E_become_17 : decode qc_E_become 17 = .ok (.putfield 21, 3) := by decide +kernel
theorem qd_E_become_20 : decode qc_E_become 20 = .ok (.aload_n 0, 1) := by decide +kernel
theorem qd_E_become_21 : decode qc_E_become 21 = .ok (.invokevirtual 27, 3) := by decide +kernel
theorem qd_E_become_24 : decode qc_E_become 24 = .ok (.return_, 1) := by decide +kernel
theorem qd_E_announce_0 : decode qc_E_announce 0 = .ok (.aload_n 0, 1) := by decide +kernel
theorem qd_E_announce_1 : decode qc_E_announce 1 = .ok (.iconst 4, 1) := by decide +kernel
theorem qd_E_announce_2 : decode qc_E_announce 2 = .ok (.putfield 24, 3) := by decide +kernel
theorem qd_E_announce_5 : decode qc_E_announce 5 = .ok (.return_, 1) := by decide +kernel
theorem qd_E_isBelow_0 : decode qc_E_isBelow 0 = .ok (.aload_n 0, 1) := by decide +kernel
theorem qd_E_isBelow_1 : decode qc_E_isBelow 1 = .ok (.getfield 9, 3) := by decide +kernel
theorem qd_E_isBelow_4 : decode qc_E_isBelow 4 = .ok (.ifCond .eq 11, 3) := by decide +kernel
theorem qd_E_isBelow_7 : decode qc_E_isBelow 7 = .ok (.iload_n 2, 1) := by decide +kernel
theorem qd_E_isBelow_8 : decode qc_E_isBelow 8 = .ok (.aload_n 0, 1) := by decide +kernel
theorem qd_E_isBelow_9 : decode qc_E_isBelow 9 = .ok (.getfield 15, 3) := by decide +kernel
theorem qd_E_isBelow_12 : decode qc_E_isBelow 12 = .ok (.if_icmp .le 5, 3) := by decide +kernel
theorem qd_E_isBelow_15 : decode qc_E_isBelow 15 = .ok (.iconst 1, 1) := by decide +kernel
theorem qd_E_isBelow_16 : decode qc_E_isBelow 16 = .ok (.ireturn, 1) := by decide +kernel
theorem qd_E_isBelow_17 : decode qc_E_isBelow 17 = .ok (.iload_n 2, 1) := by decide +kernel
theorem qd_E_isBelow_18 : decode qc_E_isBelow 18 = .ok (.aload_n 0, 1) := by decide +kernel
theorem qd_E_isBelow_19 : decode qc_E_isBelow 19 = .ok (.getfield 15, 3) := by decide +kernel
theorem qd_E_isBelow_22 : decode qc_E_isBelow 22 = .ok (.if_icmp .ne 15, 3) := by decide +kernel
theorem qd_E_isBelow_25 : decode qc_E_isBelow 25 = .ok (.iload_n 1, 1) := by decide +kernel
theorem qd_E_isBelow_26 : decode qc_E_isBelow 26 = .ok (.aload_n 0, 1) := by decide +kernel
theorem qd_E_isBelow_27 : decode qc_E_isBelow 27 = .ok (.getfield 9, 3) := by decide +kernel
theorem qd_E_isBelow_30 : decode qc_E_isBelow 30 = .ok (.if_icmp .le 7, 3) := by decide +kernel
theorem qd_E_isBelow_33 : decode qc_E_isBelow 33 = .ok (.iconst 1, 1) := by decide +kernel
theorem qd_E_isBelow_34 : decode qc_E_isBelow 34 = .ok (.goto 4, 3) := by decide +kernel
theorem qd_E_isBelow_37 : decode qc_E_isBelow 37 = .ok (.iconst 0, 1) := by decide +kernel
theorem qd_E_isBelow_38 : decode qc_E_isBelow 38 = .ok (.ireturn, 1) := by decide +kernel
theorem qd_E_becomeSuspect_0 : decode qc_E_becomeSuspect 0 = .ok (.aload_n 0, 1) := by decide +kernel
theorem qd_E_becomeSuspect_1 : decode qc_E_becomeSuspect 1 = .ok (.iconst 2, 1) := by decide +kernel
theorem qd_E_becomeSuspect_2 : decode qc_E_becomeSuspect 2 = .ok (.iload_n 1, 1) := by decide +kernel
theorem qd_E_becomeSuspect_3 : decode qc_E_becomeSuspect 3 = .ok (.iload_n 2, 1) := by decide +kernel
theorem qd_E_becomeSuspect_4 : decode qc_E_becomeSuspect 4 = .ok (.invokevirtual 30, 3) := by decide +kernel
theorem qd_E_becomeSuspect_7 : decode qc_E_becomeSuspect 7 = .ok (.aload_n 0, 1) := by decide +kernel
theorem qd_E_becomeSuspect_8 : decode qc_E_becomeSuspect 8 = .ok (.iconst 1, 1) := by decide +kernel
theorem qd_E_becomeSuspect_9 : decode qc_E_becomeSuspect 9 = .ok (.iload_n 3, 1) := by decide +kernel
theorem qd_E_becomeSuspect_10 : decode qc_E_becomeSuspect 10 = .ok (.ishl, 1) := by decide +kernel
theorem qd_E_becomeSuspect_11 : decode qc_E_becomeSuspect 11 = .ok (.putfield 21, 3) := by decide +kernel
theorem qd_E_becomeSuspect_14 : decode qc_E_becomeSuspect 14 = .ok (.return_, 1) := by decide +kernel
theorem qd_E_isSameSuspicion_0 : decode qc_E_isSameSuspicion 0 = .ok (.aload_n 0, 1) := by decide +kernel
theorem qd_E_isSameSuspicion_1 : decode qc_E_isSameSuspicion 1 = .ok (.getfield 9, 3) := by decide +kernel
theorem qd_E_isSameSuspicion_4 : decode qc_E_isSameSuspicion 4 = .ok (.iconst 2, 1) := by decide +kernel
theorem qd_E_isSameSuspicion_5 : decode qc_E_isSameSuspicion 5 = .ok (.if_icmp .ne 20, 3) := by decide +kernel
theorem qd_E_isSameSuspicion_8 : decode qc_E_isSameSuspicion 8 = .ok (.iload_n 1, 1) := by decide +kernel
theorem qd_E_isSameSuspicion_9 : decode qc_E_isSameSuspicion 9 = .ok (.iconst 2, 1) := by decide +kernel
theorem qd_E_isSameSuspicion_10 : decode qc_E_isSameSuspicion 10 = .ok (.if_icmp .ne 15, 3) := by decide +kernel
theorem qd_E_isSameSuspicion_13 : decode qc_E_isSameSuspicion 13 = .ok (.iload_n 2, 1) := by decide +kernel
theorem qd_E_isSameSuspicion_14 : decode qc_E_isSameSuspicion 14 = .ok (.aload_n 0, 1) := by decide +kernel
theorem qd_E_isSameSuspicion_15 : decode qc_E_isSameSuspicion 15 = .ok (.getfield 15, 3) := by decide +kernel
theorem qd_E_isSameSuspicion_18 : decode qc_E_isSameSuspicion 18 = .ok (.if_icmp .ne 7, 3) := by decide +kernel
theorem qd_E_isSameSuspicion_21 : decode qc_E_isSameSuspicion 21 = .ok (.iconst 1, 1) := by decide +kernel
theorem qd_E_isSameSuspicion_22 : decode qc_E_isSameSuspicion 22 = .ok (.goto 4, 3) := by decide +kernel
theorem qd_E_isSameSuspicion_25 : decode qc_E_isSameSuspicion 25 = .ok (.iconst 0, 1) := by decide +kernel
theorem qd_E_isSameSuspicion_26 : decode qc_E_isSameSuspicion 26 = .ok (.ireturn, 1) := by decide +kernel
theorem qd_E_tell_0 : decode qc_E_tell 0 = .ok (.iload_n 1, 1) := by decide +kernel
theorem qd_E_tell_1 : decode qc_E_tell 1 = .ok (.tableswitch 54 0 3 #[31, 36, 41, 46], 31) := by decide +kernel
theorem qd_E_tell_32 : decode qc_E_tell 32 = .ok (.aload_n 0, 1) := by decide +kernel
theorem qd_E_tell_33 : decode qc_E_tell 33 = .ok (.getfield 9, 3) := by decide +kernel
theorem qd_E_tell_36 : decode qc_E_tell 36 = .ok (.ireturn, 1) := by decide +kernel
theorem qd_E_tell_37 : decode qc_E_tell 37 = .ok (.aload_n 0, 1) := by decide +kernel
theorem qd_E_tell_38 : decode qc_E_tell 38 = .ok (.getfield 15, 3) := by decide +kernel
theorem qd_E_tell_41 : decode qc_E_tell 41 = .ok (.ireturn, 1) := by decide +kernel
theorem qd_E_tell_42 : decode qc_E_tell 42 = .ok (.aload_n 0, 1) := by decide +kernel
theorem qd_E_tell_43 : decode qc_E_tell 43 = .ok (.getfield 18, 3) := by decide +kernel
theorem qd_E_tell_46 : decode qc_E_tell 46 = .ok (.ireturn, 1) := by decide +kernel
theorem qd_E_tell_47 : decode qc_E_tell 47 = .ok (.aload_n 0, 1) := by decide +kernel
theorem qd_E_tell_48 : decode qc_E_tell 48 = .ok (.getfield 21, 3) := by decide +kernel
theorem qd_E_tell_51 : decode qc_E_tell 51 = .ok (.invokestatic 34, 3) := by decide +kernel
theorem qd_E_tell_54 : decode qc_E_tell 54 = .ok (.ireturn, 1) := by decide +kernel
theorem qd_E_tell_55 : decode qc_E_tell 55 = .ok (.iconst 0, 1) := by decide +kernel
theorem qd_E_tell_56 : decode qc_E_tell 56 = .ok (.ireturn, 1) := by decide +kernel
theorem qd_F_init_0 : decode qc_F_init 0 = .ok (.aload_n 0, 1) := by decide +kernel
theorem qd_F_init_1 : decode qc_F_init 1 = .ok (.invokespecial 1, 3) := by decide +kernel
theorem qd_F_init_4 : decode qc_F_init 4 = .ok (.aload_n 0, 1) := by decide +kernel
theorem qd_F_init_5 : decode qc_F_init 5 = .ok (.bipush 60, 2) := by decide +kernel
theorem qd_F_init_7 : decode qc_F_init 7 = .ok (.anewarray 9, 3) := by decide +kernel
theorem qd_F_init_10 : decode qc_F_init 10 = .ok (.putfield 11, 3) := by decide +kernel
theorem qd_F_init_13 : decode qc_F_init 13 = .ok (.aload_n 0, 1) := by decide +kernel
theorem qd_F_init_14 : decode qc_F_init 14 = .ok (.bipush 60, 2) := by decide +kernel
theorem qd_F_init_16 : decode qc_F_init 16 = .ok (.anewarray 9, 3) := by decide +kernel
theorem qd_F_init_19 : decode qc_F_init 19 = .ok (.putfield 15, 3) := by decide +kernel
theorem qd_F_init_22 : decode qc_F_init 22 = .ok (.aload_n 0, 1) := by decide +kernel
theorem qd_F_init_23 : decode qc_F_init 23 = .ok (.new 9, 3) := by decide +kernel
theorem qd_F_init_26 : decode qc_F_init 26 = .ok (.dup, 1) := by decide +kernel
theorem qd_F_init_27 : decode qc_F_init 27 = .ok (.invokespecial 18, 3) := by decide +kernel
theorem qd_F_init_30 : decode qc_F_init 30 = .ok (.putfield 19, 3) := by decide +kernel
theorem qd_F_init_33 : decode qc_F_init 33 = .ok (.iconst 0, 1) := by decide +kernel
theorem qd_F_init_34 : decode qc_F_init 34 = .ok (.istore_n 1, 1) := by decide +kernel
theorem qd_F_init_35 : decode qc_F_init 35 = .ok (.iload_n 1, 1) := by decide +kernel
theorem qd_F_init_36 : decode qc_F_init 36 = .ok (.bipush 60, 2) := by decide +kernel
theorem qd_F_init_38 : decode qc_F_init 38 = .ok (.if_icmp .ge 35, 3) := by decide +kernel
theorem qd_F_init_41 : decode qc_F_init 41 = .ok (.aload_n 0, 1) := by decide +kernel
theorem qd_F_init_42 : decode qc_F_init 42 = .ok (.getfield 11, 3) := by decide +kernel
theorem qd_F_init_45 : decode qc_F_init 45 = .ok (.iload_n 1, 1) := by decide +kernel
theorem qd_F_init_46 : decode qc_F_init 46 = .ok (.new 9, 3) := by decide +kernel
theorem qd_F_init_49 : decode qc_F_init 49 = .ok (.dup, 1) := by decide +kernel
theorem qd_F_init_50 : decode qc_F_init 50 = .ok (.invokespecial 18, 3) := by decide +kernel
theorem qd_F_init_53 : decode qc_F_init 53 = .ok (.aastore, 1) := by decide +kernel
theorem qd_F_init_54 : decode qc_F_init 54 = .ok (.aload_n 0, 1) := by decide +kernel
theorem qd_F_init_55 : decode qc_F_init 55 = .ok (.getfield 15, 3) := by decide +kernel
theorem qd_F_init_58 : decode qc_F_init 58 = .ok (.iload_n 1, 1) := by decide +kernel
theorem qd_F_init_59 : decode qc_F_init 59 = .ok (.new 9, 3) := by decide +kernel
theorem qd_F_init_62 : decode qc_F_init 62 = .ok (.dup, 1) := by decide +kernel
theorem qd_F_init_63 : decode qc_F_init 63 = .ok (.invokespecial 18, 3) := by decide +kernel
theorem qd_F_init_66 : decode qc_F_init 66 = .ok (.aastore, 1) := by decide +kernel
theorem qd_F_init_67 : decode qc_F_init 67 = .ok (.iinc 1 1, 3) := by decide +kernel
theorem qd_F_init_70 : decode qc_F_init 70 = .ok (.goto (-35), 3) := by decide +kernel
theorem qd_F_init_73 : decode qc_F_init 73 = .ok (.aload_n 0, 1) := by decide +kernel
theorem qd_F_init_74 : decode qc_F_init 74 = .ok (.iconst 0, 1) := by decide +kernel
theorem qd_F_init_75 : decode qc_F_init 75 = .ok (.putfield 23, 3) := by decide +kernel
theorem qd_F_init_78 : decode qc_F_init 78 = .ok (.return_, 1) := by decide +kernel
theorem qd_F_next_0 : decode qc_F_next 0 = .ok (.aload_n 0, 1) := by decide +kernel
theorem qd_F_next_1 : decode qc_F_next 1 = .ok (.getfield 23, 3) := by decide +kernel
theorem qd_F_next_4 : decode qc_F_next 4 = .ok (.bipush 60, 2) := by decide +kernel
theorem qd_F_next_6 : decode qc_F_next 6 = .ok (.if_icmp .lt 8, 3) := by decide +kernel
theorem qd_F_next_9 : decode qc_F_next 9 = .ok (.aload_n 0, 1) := by decide +kernel
theorem qd_F_next_10 : decode qc_F_next 10 = .ok (.getfield 19, 3) := by decide +kernel
theorem qd_F_next_13 : decode qc_F_next 13 = .ok (.areturn, 1) := by decide +kernel
theorem qd_F_next_14 : decode qc_F_next 14 = .ok (.aload_n 0, 1) := by decide +kernel
theorem qd_F_next_15 : decode qc_F_next 15 = .ok (.dup, 1) := by decide +kernel
theorem qd_F_next_16 : decode qc_F_next 16 = .ok (.getfield 23, 3) := by decide +kernel
theorem qd_F_next_19 : decode qc_F_next 19 = .ok (.iconst 1, 1) := by decide +kernel
theorem qd_F_next_20 : decode qc_F_next 20 = .ok (.iadd, 1) := by decide +kernel
theorem qd_F_next_21 : decode qc_F_next 21 = .ok (.putfield 23, 3) := by decide +kernel
theorem qd_F_next_24 : decode qc_F_next 24 = .ok (.aload_n 0, 1) := by decide +kernel
theorem qd_F_next_25 : decode qc_F_next 25 = .ok (.getfield 11, 3) := by decide +kernel
theorem qd_F_next_28 : decode qc_F_next 28 = .ok (.aload_n 0, 1) := by decide +kernel
theorem qd_F_next_29 : decode qc_F_next 29 = .ok (.getfield 23, 3) := by decide +kernel
theorem qd_F_next_32 : decode qc_F_next 32 = .ok (.iconst 1, 1) := by decide +kernel
theorem qd_F_next_33 : decode qc_F_next 33 = .ok (.isub, 1) := by decide +kernel
theorem qd_F_next_34 : decode qc_F_next 34 = .ok (.aaload, 1) := by decide +kernel
theorem qd_F_next_35 : decode qc_F_next 35 = .ok (.areturn, 1) := by decide +kernel
theorem qd_F_lose_0 : decode qc_F_lose 0 = .ok (.iload_n 1, 1) := by decide +kernel
theorem qd_F_lose_1 : decode qc_F_lose 1 = .ok (.ifCond .lt 11, 3) := by decide +kernel
theorem qd_F_lose_4 : decode qc_F_lose 4 = .ok (.iload_n 1, 1) := by decide +kernel
theorem qd_F_lose_5 : decode qc_F_lose 5 = .ok (.aload_n 0, 1) := by decide +kernel
theorem qd_F_lose_6 : decode qc_F_lose 6 = .ok (.getfield 23, 3) := by decide +kernel
theorem qd_F_lose_9 : decode qc_F_lose 9 = .ok (.if_icmp .lt 5, 3) := by decide +kernel
theorem qd_F_lose_12 : decode qc_F_lose 12 = .ok (.iconst 0, 1) := by decide +kernel
theorem qd_F_lose_13 : decode qc_F_lose 13 = .ok (.ireturn, 1) := by decide +kernel
theorem qd_F_lose_14 : decode qc_F_lose 14 = .ok (.aload_n 0, 1) := by decide +kernel
theorem qd_F_lose_15 : decode qc_F_lose 15 = .ok (.getfield 11, 3) := by decide +kernel
theorem qd_F_lose_18 : decode qc_F_lose 18 = .ok (.iload_n 1, 1) := by decide +kernel
theorem qd_F_lose_19 : decode qc_F_lose 19 = .ok (.aaload, 1) := by decide +kernel
theorem qd_F_lose_20 : decode qc_F_lose 20 = .ok (.astore_n 2, 1) := by decide +kernel
theorem qd_F_lose_21 : decode qc_F_lose 21 = .ok (.iload_n 1, 1) := by decide +kernel
theorem qd_F_lose_22 : decode qc_F_lose 22 = .ok (.istore_n 3, 1) := by decide +kernel
theorem qd_F_lose_23 : decode qc_F_lose 23 = .ok (.iload_n 3, 1) := by decide +kernel
theorem qd_F_lose_24 : decode qc_F_lose 24 = .ok (.aload_n 0, 1) := by decide +kernel
theorem qd_F_lose_25 : decode qc_F_lose 25 = .ok (.getfield 23, 3) := by decide +kernel
theorem qd_F_lose_28 : decode qc_F_lose 28 = .ok (.iconst 1, 1) := by decide +kernel
theorem qd_F_lose_29 : decode qc_F_lose 29 = .ok (.isub, 1) := by decide +kernel
theorem qd_F_lose_30 : decode qc_F_lose 30 = .ok (.if_icmp .ge 23, 3) := by decide +kernel
theorem qd_F_lose_33 : decode qc_F_lose 33 = .ok (.aload_n 0, 1) := by decide +kernel
theorem qd_F_lose_34 : decode qc_F_lose 34 = .ok (.getfield 11, 3) := by decide +kernel
theorem qd_F_lose_37 : decode qc_F_lose 37 = .ok (.iload_n 3, 1) := by decide +kernel
theorem qd_F_lose_38 : decode qc_F_lose 38 = .ok (.aload_n 0, 1) := by decide +kernel
theorem qd_F_lose_39 : decode qc_F_lose 39 = .ok (.getfield 11, 3) := by decide +kernel
theorem qd_F_lose_42 : decode qc_F_lose 42 = .ok (.iload_n 3, 1) := by decide +kernel
theorem qd_F_lose_43 : decode qc_F_lose 43 = .ok (.iconst 1, 1) := by decide +kernel
theorem qd_F_lose_44 : decode qc_F_lose 44 = .ok (.iadd, 1) := by decide +kernel
theorem qd_F_lose_45 : decode qc_F_lose 45 = .ok (.aaload, 1) := by decide +kernel
theorem qd_F_lose_46 : decode qc_F_lose 46 = .ok (.aastore, 1) := by decide +kernel
theorem qd_F_lose_47 : decode qc_F_lose 47 = .ok (.iinc 3 1, 3) := by decide +kernel
theorem qd_F_lose_50 : decode qc_F_lose 50 = .ok (.goto (-27), 3) := by decide +kernel
theorem qd_F_lose_53 : decode qc_F_lose 53 = .ok (.aload_n 0, 1) := by decide +kernel
theorem qd_F_lose_54 : decode qc_F_lose 54 = .ok (.dup, 1) := by decide +kernel
theorem qd_F_lose_55 : decode qc_F_lose 55 = .ok (.getfield 23, 3) := by decide +kernel
theorem qd_F_lose_58 : decode qc_F_lose 58 = .ok (.iconst 1, 1) := by decide +kernel
theorem qd_F_lose_59 : decode qc_F_lose 59 = .ok (.isub, 1) := by decide +kernel
theorem qd_F_lose_60 : decode qc_F_lose 60 = .ok (.putfield 23, 3) := by decide +kernel
theorem qd_F_lose_63 : decode qc_F_lose 63 = .ok (.aload_n 0, 1) := by decide +kernel
theorem qd_F_lose_64 : decode qc_F_lose 64 = .ok (.getfield 11, 3) := by decide +kernel
theorem qd_F_lose_67 : decode qc_F_lose 67 = .ok (.aload_n 0, 1) := by decide +kernel
theorem qd_F_lose_68 : decode qc_F_lose 68 = .ok (.getfield 23, 3) := by decide +kernel
theorem qd_F_lose_71 : decode qc_F_lose 71 = .ok (.aload_n 2, 1) := by decide +kernel
theorem qd_F_lose_72 : decode qc_F_lose 72 = .ok (.aastore, 1) := by decide +kernel
theorem qd_F_lose_73 : decode qc_F_lose 73 = .ok (.iconst 1, 1) := by decide +kernel
theorem qd_F_lose_74 : decode qc_F_lose 74 = .ok (.ireturn, 1) := by decide +kernel
theorem qd_F_overtake_0 : decode qc_F_overtake 0 = .ok (.iload_n 1, 1) := by decide +kernel
theorem qd_F_overtake_1 : decode qc_F_overtake 1 = .ok (.ifCond .lt 13, 3) := by decide +kernel
theorem qd_F_overtake_4 : decode qc_F_overtake 4 = .ok (.iload_n 1, 1) := by decide +kernel
theorem qd_F_overtake_5 : decode qc_F_overtake 5 = .ok (.aload_n 0, 1) := by decide +kernel
theorem qd_F_overtake_6 : decode qc_F_overtake 6 = .ok (.getfield 23, 3) := by decide +kernel
theorem qd_F_overtake_9 : decode qc_F_overtake 9 = .ok (.iconst 1, 1) := by decide +kernel
theorem qd_F_overtake_10 : decode qc_F_overtake 10 = .ok (.isub, 1) := by decide +kernel
theorem qd_F_overtake_11 : decode qc_F_overtake 11 = .ok (.if_icmp .lt 5, 3) := by decide +kernel
theorem qd_F_overtake_14 : decode qc_F_overtake 14 = .ok (.iconst 0, 1) := by decide +kernel
theorem qd_F_overtake_15 : decode qc_F_overtake 15 = .ok (.ireturn, 1) := by decide +kernel
theorem qd_F_overtake_16 : decode qc_F_overtake 16 = .ok (.aload_n 0, 1) := by decide +kernel
theorem qd_F_overtake_17 : decode qc_F_overtake 17 = .ok (.getfield 11, 3) := by decide +kernel
theorem qd_F_overtake_20 : decode qc_F_overtake 20 = .ok (.iload_n 1, 1) := by decide +kernel
theorem qd_F_overtake_21 : decode qc_F_overtake 21 = .ok (.aaload, 1) := by decide +kernel
theorem qd_F_overtake_22 : decode qc_F_overtake 22 = .ok (.astore_n 2, 1) := by decide +kernel
theorem qd_F_overtake_23 : decode qc_F_overtake 23 = .ok (.aload_n 0, 1) := by decide +kernel
theorem qd_F_overtake_24 : decode qc_F_overtake 24 = .ok (.getfield 11, 3) := by decide +kernel
theorem qd_F_overtake_27 : decode qc_F_overtake 27 = .ok (.iload_n 1, 1) := by decide +kernel
theorem qd_F_overtake_28 : decode qc_F_overtake 28 = .ok (.aload_n 0, 1) := by decide +kernel
theorem qd_F_overtake_29 : decode qc_F_overtake 29 = .ok (.getfield 11, 3) := by decide +kernel
theorem qd_F_overtake_32 : decode qc_F_overtake 32 = .ok (.iload_n 1, 1) := by decide +kernel
theorem qd_F_overtake_33 : decode qc_F_overtake 33 = .ok (.iconst 1, 1) := by decide +kernel
theorem qd_F_overtake_34 : decode qc_F_overtake 34 = .ok (.iadd, 1) := by decide +kernel
theorem qd_F_overtake_35 : decode qc_F_overtake 35 = .ok (.aaload, 1) := by decide +kernel
theorem qd_F_overtake_36 : decode qc_F_overtake 36 = .ok (.aastore, 1) := by decide +kernel
theorem qd_F_overtake_37 : decode qc_F_overtake 37 = .ok (.aload_n 0, 1) := by decide +kernel
theorem qd_F_overtake_38 : decode qc_F_overtake 38 = .ok (.getfield 11, 3) := by decide +kernel
theorem qd_F_overtake_41 : decode qc_F_overtake 41 = .ok (.iload_n 1, 1) := by decide +kernel
theorem qd_F_overtake_42 : decode qc_F_overtake 42 = .ok (.iconst 1, 1) := by decide +kernel
theorem qd_F_overtake_43 : decode qc_F_overtake 43 = .ok (.iadd, 1) := by decide +kernel
theorem qd_F_overtake_44 : decode qc_F_overtake 44 = .ok (.aload_n 2, 1) := by decide +kernel
theorem qd_F_overtake_45 : decode qc_F_overtake 45 = .ok (.aastore, 1) := by decide +kernel
theorem qd_F_overtake_46 : decode qc_F_overtake 46 = .ok (.iconst 1, 1) := by decide +kernel
theorem qd_F_overtake_47 : decode qc_F_overtake 47 = .ok (.ireturn, 1) := by decide +kernel
theorem qd_F_land_0 : decode qc_F_land 0 = .ok (.aload_n 0, 1) := by decide +kernel
theorem qd_F_land_1 : decode qc_F_land 1 = .ok (.getfield 15, 3) := by decide +kernel
theorem qd_F_land_4 : decode qc_F_land 4 = .ok (.astore_n 1, 1) := by decide +kernel
theorem qd_F_land_5 : decode qc_F_land 5 = .ok (.aload_n 0, 1) := by decide +kernel
theorem qd_F_land_6 : decode qc_F_land 6 = .ok (.aload_n 0, 1) := by decide +kernel
theorem qd_F_land_7 : decode qc_F_land 7 = .ok (.getfield 11, 3) := by decide +kernel
theorem qd_F_land_10 : decode qc_F_land 10 = .ok (.putfield 15, 3) := by decide +kernel
theorem qd_F_land_13 : decode qc_F_land 13 = .ok (.aload_n 0, 1) := by decide +kernel
theorem qd_F_land_14 : decode qc_F_land 14 = .ok (.aload_n 1, 1) := by decide +kernel
theorem qd_F_land_15 : decode qc_F_land 15 = .ok (.putfield 11, 3) := by decide +kernel
theorem qd_F_land_18 : decode qc_F_land 18 = .ok (.aload_n 0, 1) := by decide +kernel
theorem qd_F_land_19 : decode qc_F_land 19 = .ok (.getfield 23, 3) := by decide +kernel
theorem qd_F_land_22 : decode qc_F_land 22 = .ok (.istore_n 2, 1) := by decide +kernel
theorem qd_F_land_23 : decode qc_F_land 23 = .ok (.aload_n 0, 1) := by decide +kernel
theorem qd_F_land_24 : decode qc_F_land 24 = .ok (.iconst 0, 1) := by decide +kernel
theorem qd_F_land_25 : decode qc_F_land 25 = .ok (.putfield 23, 3) := by decide +kernel
theorem qd_F_land_28 : decode qc_F_land 28 = .ok (.iload_n 2, 1) := by decide +kernel
theorem qd_F_land_29 : decode qc_F_land 29 = .ok (.ireturn, 1) := by decide +kernel
theorem qd_M_init_0 : decode qc_M_init 0 = .ok (.aload_n 0, 1) := by decide +kernel
theorem qd_M_init_1 : decode qc_M_init 1 = .ok (.invokespecial 3, 3) := by decide +kernel
theorem qd_M_init_4 : decode qc_M_init 4 = .ok (.aload_n 0, 1) := by decide +kernel
theorem qd_M_init_5 : decode qc_M_init 5 = .ok (.bipush 24, 2) := by decide +kernel
theorem qd_M_init_7 : decode qc_M_init 7 = .ok (.newarray .int, 2) := by decide +kernel
theorem qd_M_init_9 : decode qc_M_init 9 = .ok (.putfield 11, 3) := by decide +kernel
theorem qd_M_init_12 : decode qc_M_init 12 = .ok (.return_, 1) := by decide +kernel
theorem qd_M_address_0 : decode qc_M_address 0 = .ok (.aload_n 0, 1) := by decide +kernel
theorem qd_M_address_1 : decode qc_M_address 1 = .ok (.iload_n 1, 1) := by decide +kernel
theorem qd_M_address_2 : decode qc_M_address 2 = .ok (.putfield 15, 3) := by decide +kernel
theorem qd_M_address_5 : decode qc_M_address 5 = .ok (.aload_n 0, 1) := by decide +kernel
theorem qd_M_address_6 : decode qc_M_address 6 = .ok (.iload_n 2, 1) := by decide +kernel
theorem qd_M_address_7 : decode qc_M_address 7 = .ok (.putfield 19, 3) := by decide +kernel
theorem qd_M_address_10 : decode qc_M_address 10 = .ok (.aload_n 0, 1) := by decide +kernel
theorem qd_M_address_11 : decode qc_M_address 11 = .ok (.iload_n 3, 1) := by decide +kernel
theorem qd_M_address_12 : decode qc_M_address 12 = .ok (.putfield 22, 3) := by decide +kernel
theorem qd_M_address_15 : decode qc_M_address 15 = .ok (.aload_n 0, 1) := by decide +kernel
theorem qd_M_address_16 : decode qc_M_address 16 = .ok (.iconst 0, 1) := by decide +kernel
theorem qd_M_address_17 : decode qc_M_address 17 = .ok (.putfield 25, 3) := by decide +kernel
theorem qd_M_address_20 : decode qc_M_address 20 = .ok (.return_, 1) := by decide +kernel
theorem qd_M_concern_0 : decode qc_M_concern 0 = .ok (.aload_n 0, 1) := by decide +kernel
theorem qd_M_concern_1 : decode qc_M_concern 1 = .ok (.iload_n 1, 1) := by decide +kernel
theorem qd_M_concern_2 : decode qc_M_concern 2 = .ok (.putfield 28, 3) := by decide +kernel
theorem qd_M_concern_5 : decode qc_M_concern 5 = .ok (.aload_n 0, 1) := by decide +kernel
theorem qd_M_concern_6 : decode qc_M_concern 6 = .ok (.iload_n 2, 1) := by decide +kernel
theorem qd_M_concern_7 : decode qc_M_concern 7 = .ok (.putfield 31, 3) := by decide +kernel
theorem qd_M_concern_10 : decode qc_M_concern 10 = .ok (.aload_n 0, 1) := by decide +kernel
theorem qd_M_concern_11 : decode qc_M_concern 11 = .ok (.iload_n 3, 1) := by decide +kernel
theorem qd_M_concern_12 : decode qc_M_concern 12 = .ok (.putfield 34, 3) := by decide +kernel
theorem qd_M_concern_15 : decode qc_M_concern 15 = .ok (.return_, 1) := by decide +kernel
theorem qd_M_carry_0 : decode qc_M_carry 0 = .ok (.aload_n 0, 1) := by decide +kernel
theorem qd_M_carry_1 : decode qc_M_carry 1 = .ok (.getfield 25, 3) := by decide +kernel
theorem qd_M_carry_4 : decode qc_M_carry 4 = .ok (.bipush 8, 2) := by decide +kernel
theorem qd_M_carry_6 : decode qc_M_carry 6 = .ok (.if_icmp .lt 4, 3) := by decide +kernel
theorem qd_M_carry_9 : decode qc_M_carry 9 = .ok (.return_, 1) := by decide +kernel
theorem qd_M_carry_10 : decode qc_M_carry 10 = .ok (.iconst 3, 1) := by decide +kernel
theorem qd_M_carry_11 : decode qc_M_carry 11 = .ok (.aload_n 0, 1) := by decide +kernel
theorem qd_M_carry_12 : decode qc_M_carry 12 = .ok (.getfield 25, 3) := by decide +kernel
theorem qd_M_carry_15 : decode qc_M_carry 15 = .ok (.imul, 1) := by decide +kernel
theorem qd_M_carry_16 : decode qc_M_carry 16 = .ok (.istore_n 3, 1) := by decide +kernel
theorem qd_M_carry_17 : decode qc_M_carry 17 = .ok (.aload_n 0, 1) := by decide +kernel
theorem qd_M_carry_18 : decode qc_M_carry 18 = .ok (.getfield 11, 3) := by decide +kernel
theorem qd_M_carry_21 : decode qc_M_carry 21 = .ok (.iload_n 3, 1) := by decide +kernel
theorem qd_M_carry_22 : decode qc_M_carry 22 = .ok (.iload_n 1, 1) := by decide +kernel
theorem qd_M_carry_23 : decode qc_M_carry 23 = .ok (.iastore, 1) := by decide +kernel
theorem qd_M_carry_24 : decode qc_M_carry 24 = .ok (.aload_n 0, 1) := by decide +kernel
theorem qd_M_carry_25 : decode qc_M_carry 25 = .ok (.getfield 11, 3) := by decide +kernel
theorem qd_M_carry_28 : decode qc_M_carry 28 = .ok (.iload_n 3, 1) := by decide +kernel
theorem qd_M_carry_29 : decode qc_M_carry 29 = .ok (.iconst 1, 1) := by decide +kernel
theorem qd_M_carry_30 : decode qc_M_carry 30 = .ok (.iadd, 1) := by decide +kernel
theorem qd_M_carry_31 : decode qc_M_carry 31 = .ok (.aload_n 2, 1) := by decide +kernel
theorem qd_M_carry_32 : decode qc_M_carry 32 = .ok (.getfield 37, 3) := by decide +kernel
theorem qd_M_carry_35 : decode qc_M_carry 35 = .ok (.iastore, 1) := by decide +kernel
theorem qd_M_carry_36 : decode qc_M_carry 36 = .ok (.aload_n 0, 1) := by decide +kernel
theorem qd_M_carry_37 : decode qc_M_carry 37 = .ok (.getfield 11, 3) := by decide +kernel
theorem qd_M_carry_40 : decode qc_M_carry 40 = .ok (.iload_n 3, 1) := by decide +kernel
theorem qd_M_carry_41 : decode qc_M_carry 41 = .ok (.iconst 2, 1) := by decide +kernel
theorem qd_M_carry_42 : decode qc_M_carry 42 = .ok (.iadd, 1) := by decide +kernel
theorem qd_M_carry_43 : decode qc_M_carry 43 = .ok (.aload_n 2, 1) := by decide +kernel
theorem qd_M_carry_44 : decode qc_M_carry 44 = .ok (.getfield 42, 3) := by decide +kernel
theorem qd_M_carry_47 : decode qc_M_carry 47 = .ok (.iastore, 1) := by decide +kernel
theorem qd_M_carry_48 : decode qc_M_carry 48 = .ok (.aload_n 0, 1) := by decide +kernel
theorem qd_M_carry_49 : decode qc_M_carry 49 = .ok (.dup, 1) := by decide +kernel
theorem qd_M_carry_50 : decode qc_M_carry 50 = .ok (.getfield 25, 3) := by decide +kernel
theorem qd_M_carry_53 : decode qc_M_carry 53 = .ok (.iconst 1, 1) := by decide +kernel
theorem qd_M_carry_54 : decode qc_M_carry 54 = .ok (.iadd, 1) := by decide +kernel
theorem qd_M_carry_55 : decode qc_M_carry 55 = .ok (.putfield 25, 3) := by decide +kernel
theorem qd_M_carry_58 : decode qc_M_carry 58 = .ok (.return_, 1) := by decide +kernel
theorem qd_M_tell_0 : decode qc_M_tell 0 = .ok (.iload_n 1, 1) := by decide +kernel
theorem qd_M_tell_1 : decode qc_M_tell 1 = .ok (.tableswitch 78 0 6 #[43, 48, 53, 58, 63, 68, 73], 43) := by decide +kernel
theorem qd_M_tell_44 : decode qc_M_tell 44 = .ok (.aload_n 0, 1) := by decide +kernel
theorem qd_M_tell_45 : decode qc_M_tell 45 = .ok (.getfield 15, 3) := by decide +kernel
theorem qd_M_tell_48 : decode qc_M_tell 48 = .ok (.ireturn, 1) := by decide +kernel
theorem qd_M_tell_49 : decode qc_M_tell 49 = .ok (.aload_n 0, 1) := by decide +kernel
theorem qd_M_tell_50 : decode qc_M_tell 50 = .ok (.getfield 19, 3) := by decide +kernel
theorem qd_M_tell_53 : decode qc_M_tell 53 = .ok (.ireturn, 1) := by decide +kernel
theorem qd_M_tell_54 : decode qc_M_tell 54 = .ok (.aload_n 0, 1) := by decide +kernel
theorem qd_M_tell_55 : decode qc_M_tell 55 = .ok (.getfield 22, 3) := by decide +kernel
theorem qd_M_tell_58 : decode qc_M_tell 58 = .ok (.ireturn, 1) := by decide +kernel
theorem qd_M_tell_59 : decode qc_M_tell 59 = .ok (.aload_n 0, 1) := by decide +kernel
theorem qd_M_tell_60 : decode qc_M_tell 60 = .ok (.getfield 28, 3) := by decide +kernel
theorem qd_M_tell_63 : decode qc_M_tell 63 = .ok (.ireturn, 1) := by decide +kernel
theorem qd_M_tell_64 : decode qc_M_tell 64 = .ok (.aload_n 0, 1) := by decide +kernel
theorem qd_M_tell_65 : decode qc_M_tell 65 = .ok (.getfield 31, 3) := by decide +kernel
theorem qd_M_tell_68 : decode qc_M_tell 68 = .ok (.ireturn, 1) := by decide +kernel
theorem qd_M_tell_69 : decode qc_M_tell 69 = .ok (.aload_n 0, 1) := by decide +kernel
theorem qd_M_tell_70 : decode qc_M_tell 70 = .ok (.getfield 34, 3) := by decide +kernel
theorem qd_M_tell_73 : decode qc_M_tell 73 = .ok (.ireturn, 1) := by decide +kernel
theorem qd_M_tell_74 : decode qc_M_tell 74 = .ok (.aload_n 0, 1) := by decide +kernel
theorem qd_M_tell_75 : decode qc_M_tell 75 = .ok (.getfield 25, 3) := by decide +kernel
theorem qd_M_tell_78 : decode qc_M_tell 78 = .ok (.ireturn, 1) := by decide +kernel
theorem qd_M_tell_79 : decode qc_M_tell 79 = .ok (.aload_n 0, 1) := by decide +kernel
theorem qd_M_tell_80 : decode qc_M_tell 80 = .ok (.iload_n 1, 1) := by decide +kernel
theorem qd_M_tell_81 : decode qc_M_tell 81 = .ok (.invokevirtual 45, 3) := by decide +kernel
theorem qd_M_tell_84 : decode qc_M_tell 84 = .ok (.ireturn, 1) := by decide +kernel
theorem qd_M_tellNews_0 : decode qc_M_tellNews 0 = .ok (.iload_n 1, 1) := by decide +kernel
theorem qd_M_tellNews_1 : decode qc_M_tellNews 1 = .ok (.bipush 7, 2) := by decide +kernel
theorem qd_M_tellNews_3 : decode qc_M_tellNews 3 = .ok (.if_icmp .lt 16, 3) := by decide +kernel
theorem qd_M_tellNews_6 : decode qc_M_tellNews 6 = .ok (.iload_n 1, 1) := by decide +kernel
theorem qd_M_tellNews_7 : decode qc_M_tellNews 7 = .ok (.bipush 7, 2) := by decide +kernel
theorem qd_M_tellNews_9 : decode qc_M_tellNews 9 = .ok (.iconst 3, 1) := by decide +kernel
theorem qd_M_tellNews_10 : decode qc_M_tellNews 10 = .ok (.aload_n 0, 1) := by decide +kernel
theorem qd_M_tellNews_11 : decode qc_M_tellNews 11 = .ok (.getfield 25, 3) := by decide +kernel
theorem qd_M_tellNews_14 : decode qc_M_tellNews 14 = .ok (.imul, 1) := by decide +kernel
theorem qd_M_tellNews_15 : decode qc_M_tellNews 15 = .ok (.iadd, 1) := by decide +kernel
theorem qd_M_tellNews_16 : decode qc_M_tellNews 16 = .ok (.if_icmp .lt 5, 3) := by decide +kernel
theorem qd_M_tellNews_19 : decode qc_M_tellNews 19 = .ok (.iconst 0, 1) := by decide +kernel
theorem qd_M_tellNews_20 : decode qc_M_tellNews 20 = .ok (.ireturn, 1) := by decide +kernel
theorem qd_M_tellNews_21 : decode qc_M_tellNews 21 = .ok (.aload_n 0, 1) := by decide +kernel
theorem qd_M_tellNews_22 : decode qc_M_tellNews 22 = .ok (.getfield 11, 3) := by decide +kernel
theorem qd_M_tellNews_25 : decode qc_M_tellNews 25 = .ok (.iload_n 1, 1) := by decide +kernel
theorem qd_M_tellNews_26 : decode qc_M_tellNews 26 = .ok (.bipush 7, 2) := by decide +kernel
theorem qd_M_tellNews_28 : decode qc_M_tellNews 28 = .ok (.isub, 1) := by decide +kernel
theorem qd_M_tellNews_29 : decode qc_M_tellNews 29 = .ok (.iaload, 1) := by decide +kernel
theorem qd_M_tellNews_30 : decode qc_M_tellNews 30 = .ok (.ireturn, 1) := by decide +kernel
theorem qd_R_init_0 : decode qc_R_init 0 = .ok (.aload_n 0, 1) := by decide +kernel
theorem qd_R_init_1 : decode qc_R_init 1 = .ok (.invokespecial 1, 3) := by decide +kernel
theorem qd_R_init_4 : decode qc_R_init 4 = .ok (.return_, 1) := by decide +kernel
theorem qd_R_isFor_0 : decode qc_R_isFor 0 = .ok (.aload_n 0, 1) := by decide +kernel
theorem qd_R_isFor_1 : decode qc_R_isFor 1 = .ok (.getfield 7, 3) := by decide +kernel
theorem qd_R_isFor_4 : decode qc_R_isFor 4 = .ok (.aload_n 1, 1) := by decide +kernel
theorem qd_R_isFor_5 : decode qc_R_isFor 5 = .ok (.getfield 13, 3) := by decide +kernel
theorem qd_R_isFor_8 : decode qc_R_isFor 8 = .ok (.if_icmp .ne 29, 3) := by decide +kernel
theorem qd_R_isFor_11 : decode qc_R_isFor 11 = .ok (.aload_n 0, 1) := by decide +kernel
theorem qd_R_isFor_12 : decode qc_R_isFor 12 = .ok (.getfield 16, 3) := by decide +kernel
theorem qd_R_isFor_15 : decode qc_R_isFor 15 = .ok (.aload_n 1, 1) := by decide +kernel
theorem qd_R_isFor_16 : decode qc_R_isFor 16 = .ok (.getfield 19, 3) := by decide +kernel
theorem qd_R_isFor_19 : decode qc_R_isFor 19 = .ok (.if_icmp .ne 18, 3) := by decide +kernel
theorem qd_R_isFor_22 : decode qc_R_isFor 22 = .ok (.aload_n 0, 1) := by decide +kernel
theorem qd_R_isFor_23 : decode qc_R_isFor 23 = .ok (.getfield 20, 3) := by decide +kernel
theorem qd_R_isFor_26 : decode qc_R_isFor 26 = .ok (.aload_n 1, 1) := by decide +kernel
theorem qd_R_isFor_27 : decode qc_R_isFor 27 = .ok (.getfield 23, 3) := by decide +kernel
theorem qd_R_isFor_30 : decode qc_R_isFor 30 = .ok (.if_icmp .ne 7, 3) := by decide +kernel
theorem qd_R_isFor_33 : decode qc_R_isFor 33 = .ok (.iconst 1, 1) := by decide +kernel
theorem qd_R_isFor_34 : decode qc_R_isFor 34 = .ok (.goto 4, 3) := by decide +kernel
theorem qd_R_isFor_37 : decode qc_R_isFor 37 = .ok (.iconst 0, 1) := by decide +kernel
theorem qd_R_isFor_38 : decode qc_R_isFor 38 = .ok (.ireturn, 1) := by decide +kernel
theorem qd_J_bitCount_0 : decode qc_J_bitCount 0 = .ok (.iload_n 0, 1) := by decide +kernel
theorem qd_J_bitCount_1 : decode qc_J_bitCount 1 = .ok (.iload_n 0, 1) := by decide +kernel
theorem qd_J_bitCount_2 : decode qc_J_bitCount 2 = .ok (.iconst 1, 1) := by decide +kernel
theorem qd_J_bitCount_3 : decode qc_J_bitCount 3 = .ok (.iushr, 1) := by decide +kernel
theorem qd_J_bitCount_4 : decode qc_J_bitCount 4 = .ok (.ldc_w 265, 3) := by decide +kernel
theorem qd_J_bitCount_7 : decode qc_J_bitCount 7 = .ok (.iand, 1) := by decide +kernel
theorem qd_J_bitCount_8 : decode qc_J_bitCount 8 = .ok (.isub, 1) := by decide +kernel
theorem qd_J_bitCount_9 : decode qc_J_bitCount 9 = .ok (.istore_n 0, 1) := by decide +kernel
theorem qd_J_bitCount_10 : decode qc_J_bitCount 10 = .ok (.iload_n 0, 1) := by decide +kernel
theorem qd_J_bitCount_11 : decode qc_J_bitCount 11 = .ok (.ldc_w 266, 3) := by decide +kernel
theorem qd_J_bitCount_14 : decode qc_J_bitCount 14 = .ok (.iand, 1) := by decide +kernel
theorem qd_J_bitCount_15 : decode qc_J_bitCount 15 = .ok (.iload_n 0, 1) := by decide +kernel
theorem qd_J_bitCount_16 : decode qc_J_bitCount 16 = .ok (.iconst 2, 1) := by decide +kernel
theorem qd_J_bitCount_17 : decode qc_J_bitCount 17 = .ok (.iushr, 1) := by decide +kernel
theorem qd_J_bitCount_18 : decode qc_J_bitCount 18 = .ok (.ldc_w 266, 3) := by decide +kernel
theorem qd_J_bitCount_21 : decode qc_J_bitCount 21 = .ok (.iand, 1) := by decide +kernel
theorem qd_J_bitCount_22 : decode qc_J_bitCount 22 = .ok (.iadd, 1) := by decide +kernel
theorem qd_J_bitCount_23 : decode qc_J_bitCount 23 = .ok (.istore_n 0, 1) := by decide +kernel
theorem qd_J_bitCount_24 : decode qc_J_bitCount 24 = .ok (.iload_n 0, 1) := by decide +kernel
theorem qd_J_bitCount_25 : decode qc_J_bitCount 25 = .ok (.iload_n 0, 1) := by decide +kernel
theorem qd_J_bitCount_26 : decode qc_J_bitCount 26 = .ok (.iconst 4, 1) := by decide +kernel
theorem qd_J_bitCount_27 : decode qc_J_bitCount 27 = .ok (.iushr, 1) := by decide +kernel
theorem qd_J_bitCount_28 : decode qc_J_bitCount 28 = .ok (.iadd, 1) := by decide +kernel
theorem qd_J_bitCount_29 : decode qc_J_bitCount 29 = .ok (.ldc_w 267, 3) := by decide +kernel
theorem qd_J_bitCount_32 : decode qc_J_bitCount 32 = .ok (.iand, 1) := by decide +kernel
theorem qd_J_bitCount_33 : decode qc_J_bitCount 33 = .ok (.istore_n 0, 1) := by decide +kernel
theorem qd_J_bitCount_34 : decode qc_J_bitCount 34 = .ok (.iload_n 0, 1) := by decide +kernel
theorem qd_J_bitCount_35 : decode qc_J_bitCount 35 = .ok (.iload_n 0, 1) := by decide +kernel
theorem qd_J_bitCount_36 : decode qc_J_bitCount 36 = .ok (.bipush 8, 2) := by decide +kernel
theorem qd_J_bitCount_38 : decode qc_J_bitCount 38 = .ok (.iushr, 1) := by decide +kernel
theorem qd_J_bitCount_39 : decode qc_J_bitCount 39 = .ok (.iadd, 1) := by decide +kernel
theorem qd_J_bitCount_40 : decode qc_J_bitCount 40 = .ok (.istore_n 0, 1) := by decide +kernel
theorem qd_J_bitCount_41 : decode qc_J_bitCount 41 = .ok (.iload_n 0, 1) := by decide +kernel
theorem qd_J_bitCount_42 : decode qc_J_bitCount 42 = .ok (.iload_n 0, 1) := by decide +kernel
theorem qd_J_bitCount_43 : decode qc_J_bitCount 43 = .ok (.bipush 16, 2) := by decide +kernel
theorem qd_J_bitCount_45 : decode qc_J_bitCount 45 = .ok (.iushr, 1) := by decide +kernel
theorem qd_J_bitCount_46 : decode qc_J_bitCount 46 = .ok (.iadd, 1) := by decide +kernel
theorem qd_J_bitCount_47 : decode qc_J_bitCount 47 = .ok (.istore_n 0, 1) := by decide +kernel
theorem qd_J_bitCount_48 : decode qc_J_bitCount 48 = .ok (.iload_n 0, 1) := by decide +kernel
theorem qd_J_bitCount_49 : decode qc_J_bitCount 49 = .ok (.bipush 63, 2) := by decide +kernel
theorem qd_J_bitCount_51 : decode qc_J_bitCount 51 = .ok (.iand, 1) := by decide +kernel
theorem qd_J_bitCount_52 : decode qc_J_bitCount 52 = .ok (.ireturn, 1) := by decide +kernel
theorem qd_N_init_0 : decode qc_N_init 0 = .ok (.aload_n 0, 1) := by decide +kernel
theorem qd_N_init_1 : decode qc_N_init 1 = .ok (.invokespecial 3, 3) := by decide +kernel
theorem qd_N_init_4 : decode qc_N_init 4 = .ok (.aload_n 0, 1) := by decide +kernel
theorem qd_N_init_5 : decode qc_N_init 5 = .ok (.iconst 4, 1) := by decide +kernel
theorem qd_N_init_6 : decode qc_N_init 6 = .ok (.anewarray 11, 3) := by decide +kernel
theorem qd_N_init_9 : decode qc_N_init 9 = .ok (.putfield 13, 3) := by decide +kernel
theorem qd_N_init_12 : decode qc_N_init 12 = .ok (.aload_n 0, 1) := by decide +kernel
theorem qd_N_init_13 : decode qc_N_init 13 = .ok (.iload_n 1, 1) := by decide +kernel
theorem qd_N_init_14 : decode qc_N_init 14 = .ok (.putfield 17, 3) := by decide +kernel
theorem qd_N_init_17 : decode qc_N_init 17 = .ok (.aload_n 0, 1) := by decide +kernel
theorem qd_N_init_18 : decode qc_N_init 18 = .ok (.iload_n 2, 1) := by decide +kernel
theorem qd_N_init_19 : decode qc_N_init 19 = .ok (.putfield 21, 3) := by decide +kernel
theorem qd_N_init_22 : decode qc_N_init 22 = .ok (.aload_n 0, 1) := by decide +kernel
theorem qd_N_init_23 : decode qc_N_init 23 = .ok (.aload_n 3, 1) := by decide +kernel
theorem qd_N_init_24 : decode qc_N_init 24 = .ok (.putfield 24, 3) := by decide +kernel
theorem qd_N_init_27 : decode qc_N_init 27 = .ok (.aload_n 0, 1) := by decide +kernel
theorem qd_N_init_28 : decode qc_N_init 28 = .ok (.iload_n 2, 1) := by decide +kernel
theorem qd_N_init_29 : decode qc_N_init 29 = .ok (.anewarray 28, 3) := by decide +kernel
theorem qd_N_init_32 : decode qc_N_init 32 = .ok (.putfield 30, 3) := by decide +kernel
theorem qd_N_init_35 : decode qc_N_init 35 = .ok (.iconst 0, 1) := by decide +kernel
theorem qd_N_init_36 : decode qc_N_init 36 = .ok (.istore 4, 2) := by decide +kernel
theorem qd_N_init_38 : decode qc_N_init 38 = .ok (.iload 4, 2) := by decide +kernel
theorem qd_N_init_40 : decode qc_N_init 40 = .ok (.iload_n 2, 1) := by decide +kernel
theorem qd_N_init_41 : decode qc_N_init 41 = .ok (.if_icmp .ge 23, 3) := by decide +kernel
theorem qd_N_init_44 : decode qc_N_init 44 = .ok (.aload_n 0, 1) := by decide +kernel
theorem qd_N_init_45 : decode qc_N_init 45 = .ok (.getfield 30, 3) := by decide +kernel
theorem qd_N_init_48 : decode qc_N_init 48 = .ok (.iload 4, 2) := by decide +kernel
theorem qd_N_init_50 : decode qc_N_init 50 = .ok (.new 28, 3) := by decide +kernel
theorem qd_N_init_53 : decode qc_N_init 53 = .ok (.dup, 1) := by decide +kernel
theorem qd_N_init_54 : decode qc_N_init 54 = .ok (.invokespecial 34, 3) := by decide +kernel
theorem qd_N_init_57 : decode qc_N_init 57 = .ok (.aastore, 1) := by decide +kernel
theorem qd_N_init_58 : decode qc_N_init 58 = .ok (.iinc 4 1, 3) := by decide +kernel
theorem qd_N_init_61 : decode qc_N_init 61 = .ok (.goto (-23), 3) := by decide +kernel
theorem qd_N_init_64 : decode qc_N_init 64 = .ok (.iconst 0, 1) := by decide +kernel
theorem qd_N_init_65 : decode qc_N_init 65 = .ok (.istore 4, 2) := by decide +kernel
theorem qd_N_init_67 : decode qc_N_init 67 = .ok (.iload 4, 2) := by decide +kernel
theorem qd_N_init_69 : decode qc_N_init 69 = .ok (.iconst 4, 1) := by decide +kernel
theorem qd_N_init_70 : decode qc_N_init 70 = .ok (.if_icmp .ge 23, 3) := by decide +kernel
theorem qd_N_init_73 : decode qc_N_init 73 = .ok (.aload_n 0, 1) := by decide +kernel
theorem qd_N_init_74 : decode qc_N_init 74 = .ok (.getfield 13, 3) := by decide +kernel
theorem qd_N_init_77 : decode qc_N_init 77 = .ok (.iload 4, 2) := by decide +kernel
theorem qd_N_init_79 : decode qc_N_init 79 = .ok (.new 11, 3) := by decide +kernel
theorem qd_N_init_82 : decode qc_N_init 82 = .ok (.dup, 1) := by decide +kernel
theorem qd_N_init_83 : decode qc_N_init 83 = .ok (.invokespecial 35, 3) := by decide +kernel
theorem qd_N_init_86 : decode qc_N_init 86 = .ok (.aastore, 1) := by decide +kernel
theorem qd_N_init_87 : decode qc_N_init 87 = .ok (.iinc 4 1, 3) := by decide +kernel
theorem qd_N_init_90 : decode qc_N_init 90 = .ok (.goto (-23), 3) := by decide +kernel
theorem qd_N_init_93 : decode qc_N_init 93 = .ok (.return_, 1) := by decide +kernel
theorem qd_N_begin_0 : decode qc_N_begin 0 = .ok (.iconst 0, 1) := by decide +kernel
theorem qd_N_begin_1 : decode qc_N_begin 1 = .ok (.istore_n 2, 1) := by decide +kernel
theorem qd_N_begin_2 : decode qc_N_begin 2 = .ok (.iload_n 2, 1) := by decide +kernel
theorem qd_N_begin_3 : decode qc_N_begin 3 = .ok (.aload_n 0, 1) := by decide +kernel
theorem qd_N_begin_4 : decode qc_N_begin 4 = .ok (.getfield 21, 3) := by decide +kernel
theorem qd_N_begin_7 : decode qc_N_begin 7 = .ok (.if_icmp .ge 18, 3) := by decide +kernel
theorem qd_N_begin_10 : decode qc_N_begin 10 = .ok (.aload_n 0, 1) := by decide +kernel
theorem qd_N_begin_11 : decode qc_N_begin 11 = .ok (.getfield 30, 3) := by decide +kernel
theorem qd_N_begin_14 : decode qc_N_begin 14 = .ok (.iload_n 2, 1) := by decide +kernel
theorem qd_N_begin_15 : decode qc_N_begin 15 = .ok (.aaload, 1) := by decide +kernel
theorem qd_N_begin_16 : decode qc_N_begin 16 = .ok (.invokevirtual 36, 3) := by decide +kernel
theorem qd_N_begin_19 : decode qc_N_begin 19 = .ok (.iinc 2 1, 3) := by decide +kernel
theorem qd_N_begin_22 : decode qc_N_begin 22 = .ok (.goto (-20), 3) := by decide +kernel
theorem qd_N_begin_25 : decode qc_N_begin 25 = .ok (.aload_n 0, 1) := by decide +kernel
theorem qd_N_begin_26 : decode qc_N_begin 26 = .ok (.getfield 30, 3) := by decide +kernel
theorem qd_N_begin_29 : decode qc_N_begin 29 = .ok (.aload_n 0, 1) := by decide +kernel
theorem qd_N_begin_30 : decode qc_N_begin 30 = .ok (.getfield 17, 3) := by decide +kernel
theorem qd_N_begin_33 : decode qc_N_begin 33 = .ok (.aaload, 1) := by decide +kernel
theorem qd_N_begin_34 : decode qc_N_begin 34 = .ok (.iconst 1, 1) := by decide +kernel
theorem qd_N_begin_35 : decode qc_N_begin 35 = .ok (.iconst 0, 1) := by decide +kernel
theorem qd_N_begin_36 : decode qc_N_begin 36 = .ok (.iload_n 1, 1) := by decide +kernel
theorem qd_N_begin_37 : decode qc_N_begin 37 = .ok (.invokevirtual 39, 3) := by decide +kernel
theorem qd_N_begin_40 : decode qc_N_begin 40 = .ok (.aload_n 0, 1) := by decide +kernel
theorem qd_N_begin_41 : decode qc_N_begin 41 = .ok (.iconst 1, 1) := by decide +kernel
theorem qd_N_begin_42 : decode qc_N_begin 42 = .ok (.putfield 43, 3) := by decide +kernel
theorem qd_N_begin_45 : decode qc_N_begin 45 = .ok (.aload_n 0, 1) := by decide +kernel
theorem qd_N_begin_46 : decode qc_N_begin 46 = .ok (.iload_n 1, 1) := by decide +kernel
theorem qd_N_begin_47 : decode qc_N_begin 47 = .ok (.putfield 47, 3) := by decide +kernel
theorem qd_N_begin_50 : decode qc_N_begin 50 = .ok (.aload_n 0, 1) := by decide +kernel
theorem qd_N_begin_51 : decode qc_N_begin 51 = .ok (.iconst 0, 1) := by decide +kernel
theorem qd_N_begin_52 : decode qc_N_begin 52 = .ok (.putfield 50, 3) := by decide +kernel
theorem qd_N_begin_55 : decode qc_N_begin 55 = .ok (.aload_n 0, 1) := by decide +kernel
theorem qd_N_begin_56 : decode qc_N_begin 56 = .ok (.iconst 0, 1) := by decide +kernel
theorem qd_N_begin_57 : decode qc_N_begin 57 = .ok (.putfield 53, 3) := by decide +kernel
theorem qd_N_begin_60 : decode qc_N_begin 60 = .ok (.aload_n 0, 1) := by decide +kernel
theorem qd_N_begin_61 : decode qc_N_begin 61 = .ok (.iconst 2, 1) := by decide +kernel
theorem qd_N_begin_62 : decode qc_N_begin 62 = .ok (.putfield 56, 3) := by decide +kernel
theorem qd_N_begin_65 : decode qc_N_begin 65 = .ok (.aload_n 0, 1) := by decide +kernel
theorem qd_N_begin_66 : decode qc_N_begin 66 = .ok (.iconst 0, 1) := by decide +kernel
theorem qd_N_begin_67 : decode qc_N_begin 67 = .ok (.putfield 59, 3) := by decide +kernel
theorem qd_N_begin_70 : decode qc_N_begin 70 = .ok (.aload_n 0, 1) := by decide +kernel
theorem qd_N_begin_71 : decode qc_N_begin 71 = .ok (.iconst (-1), 1) := by decide +kernel
theorem qd_N_begin_72 : decode qc_N_begin 72 = .ok (.putfield 62, 3) := by decide +kernel
theorem qd_N_begin_75 : decode qc_N_begin 75 = .ok (.aload_n 0, 1) := by decide +kernel
theorem qd_N_begin_76 : decode qc_N_begin 76 = .ok (.aload_n 0, 1) := by decide +kernel
theorem qd_N_begin_77 : decode qc_N_begin 77 = .ok (.getfield 17, 3) := by decide +kernel
theorem qd_N_begin_80 : decode qc_N_begin 80 = .ok (.putfield 65, 3) := by decide +kernel
theorem qd_N_begin_83 : decode qc_N_begin 83 = .ok (.aload_n 0, 1) := by decide +kernel
theorem qd_N_begin_84 : decode qc_N_begin 84 = .ok (.iconst 0, 1) := by decide +kernel
theorem qd_N_begin_85 : decode qc_N_begin 85 = .ok (.putfield 68, 3) := by decide +kernel
theorem qd_N_begin_88 : decode qc_N_begin 88 = .ok (.aload_n 0, 1) := by decide +kernel
theorem qd_N_begin_89 : decode qc_N_begin 89 = .ok (.iconst 0, 1) := by decide +kernel
theorem qd_N_begin_90 : decode qc_N_begin 90 = .ok (.putfield 71, 3) := by decide +kernel
theorem qd_N_begin_93 : decode qc_N_begin 93 = .ok (.aload_n 0, 1) := by decide +kernel
theorem qd_N_begin_94 : decode qc_N_begin 94 = .ok (.iconst 0, 1) := by decide +kernel
theorem qd_N_begin_95 : decode qc_N_begin 95 = .ok (.putfield 74, 3) := by decide +kernel
theorem qd_N_begin_98 : decode qc_N_begin 98 = .ok (.aload_n 0, 1) := by decide +kernel
theorem qd_N_begin_99 : decode qc_N_begin 99 = .ok (.iconst 0, 1) := by decide +kernel
theorem qd_N_begin_100 : decode qc_N_begin 100 = .ok (.putfield 77, 3) := by decide +kernel
theorem qd_N_begin_103 : decode qc_N_begin 103 = .ok (.aload_n 0, 1) := by decide +kernel
theorem qd_N_begin_104 : decode qc_N_begin 104 = .ok (.aload_n 0, 1) := by decide +kernel
theorem qd_N_begin_105 : decode qc_N_begin 105 = .ok (.getfield 17, 3) := by decide +kernel
theorem qd_N_begin_108 : decode qc_N_begin 108 = .ok (.putfield 80, 3) := by decide +kernel
theorem qd_N_begin_111 : decode qc_N_begin 111 = .ok (.return_, 1) := by decide +kernel
theorem qd_N_send_0 : decode qc_N_send 0 = .ok (.aload_n 0, 1) := by decide +kernel
theorem qd_N_send_1 : decode qc_N_send 1 = .ok (.getfield 24, 3) := by decide +kernel
theorem qd_N_send_4 : decode qc_N_send 4 = .ok (.invokevirtual 93, 3) := by decide +kernel
theorem qd_N_send_7 : decode qc_N_send 7 = .ok (.astore 6, 2) := by decide +kernel
theorem qd_N_send_9 : decode qc_N_send 9 = .ok (.aload 6, 2) := by decide +kernel
theorem qd_N_send_11 : decode qc_N_send 11 = .ok (.iload_n 1, 1) := by decide +kernel
theorem qd_N_send_12 : decode qc_N_send 12 = .ok (.aload_n 0, 1) := by decide +kernel
theorem qd_N_send_13 : decode qc_N_send 13 = .ok (.getfield 17, 3) := by decide +kernel
theorem qd_N_send_16 : decode qc_N_send 16 = .ok (.iload_n 2, 1) := by decide +kernel
theorem qd_N_send_17 : decode qc_N_send 17 = .ok (.invokevirtual 99, 3) := by decide +kernel
theorem qd_N_send_20 : decode qc_N_send 20 = .ok (.aload 6, 2) := by decide +kernel
theorem qd_N_send_22 : decode qc_N_send 22 = .ok (.iload_n 3, 1) := by decide +kernel
theorem qd_N_send_23 : decode qc_N_send 23 = .ok (.iload 4, 2) := by decide +kernel
theorem qd_N_send_25 : decode qc_N_send 25 = .ok (.iload 5, 2) := by decide +kernel
theorem qd_N_send_27 : decode qc_N_send 27 = .ok (.invokevirtual 104, 3) := by decide +kernel
theorem qd_N_send_30 : decode qc_N_send 30 = .ok (.iload_n 1, 1) := by decide +kernel
theorem qd_N_send_31 : decode qc_N_send 31 = .ok (.bipush 6, 2) := by decide +kernel
theorem qd_N_send_33 : decode qc_N_send 33 = .ok (.if_icmp .eq 9, 3) := by decide +kernel
theorem qd_N_send_36 : decode qc_N_send 36 = .ok (.iload_n 1, 1) := by decide +kernel
theorem qd_N_send_37 : decode qc_N_send 37 = .ok (.bipush 7, 2) := by decide +kernel
theorem qd_N_send_39 : decode qc_N_send 39 = .ok (.if_icmp .ne 12, 3) := by decide +kernel
theorem qd_N_send_42 : decode qc_N_send 42 = .ok (.aload_n 0, 1) := by decide +kernel
theorem qd_N_send_43 : decode qc_N_send 43 = .ok (.aload 6, 2) := by decide +kernel
theorem qd_N_send_45 : decode qc_N_send 45 = .ok (.invokevirtual 107, 3) := by decide +kernel
theorem qd_N_send_48 : decode qc_N_send 48 = .ok (.goto 9, 3) := by decide +kernel
theorem qd_N_send_51 : decode qc_N_send 51 = .ok (.aload_n 0, 1) := by decide +kernel
theorem qd_N_send_52 : decode qc_N_send 52 = .ok (.aload 6, 2) := by decide +kernel
theorem qd_N_send_54 : decode qc_N_send 54 = .ok (.invokevirtual 111, 3) := by decide +kernel
theorem qd_N_send_57 : decode qc_N_send 57 = .ok (.return_, 1) := by decide +kernel
theorem qd_N_loadTable_0 : decode qc_N_loadTable 0 = .ok (.iconst 0, 1) := by decide +kernel
theorem qd_N_loadTable_1 : decode qc_N_loadTable 1 = .ok (.istore_n 2, 1) := by decide +kernel
theorem qd_N_loadTable_2 : decode qc_N_loadTable 2 = .ok (.iload_n 2, 1) := by decide +kernel
theorem qd_N_loadTable_3 : decode qc_N_loadTable 3 = .ok (.aload_n 0, 1) := by decide +kernel
theorem qd_N_loadTable_4 : decode qc_N_loadTable 4 = .ok (.getfield 21, 3) := by decide +kernel
theorem qd_N_loadTable_7 : decode qc_N_loadTable 7 = .ok (.if_icmp .ge 32, 3) := by decide +kernel
theorem qd_N_loadTable_10 : decode qc_N_loadTable 10 = .ok (.aload_n 0, 1) := by decide +kernel
theorem qd_N_loadTable_11 : decode qc_N_loadTable 11 = .ok (.getfield 30, 3) := by decide +kernel
theorem qd_N_loadTable_14 : decode qc_N_loadTable 14 = .ok (.iload_n 2, 1) := by decide +kernel
theorem qd_N_loadTable_15 : decode qc_N_loadTable 15 = .ok (.aaload, 1) := by decide +kernel
theorem qd_N_loadTable_16 : decode qc_N_loadTable 16 = .ok (.getfield 86, 3) := by decide +kernel
theorem qd_N_loadTable_19 : decode qc_N_loadTable 19 = .ok (.ifCond .eq 14, 3) := by decide +kernel
theorem qd_N_loadTable_22 : decode qc_N_loadTable 22 = .ok (.aload_n 1, 1) := by decide +kernel
theorem qd_N_loadTable_23 : decode qc_N_loadTable 23 = .ok (.iload_n 2, 1) := by decide +kernel
theorem qd_N_loadTable_24 : decode qc_N_loadTable 24 = .ok (.aload_n 0, 1) := by decide +kernel
theorem qd_N_loadTable_25 : decode qc_N_loadTable 25 = .ok (.getfield 30, 3) := by decide +kernel
theorem qd_N_loadTable_28 : decode qc_N_loadTable 28 = .ok (.iload_n 2, 1) := by decide +kernel
theorem qd_N_loadTable_29 : decode qc_N_loadTable 29 = .ok (.aaload, 1) := by decide +kernel
theorem qd_N_loadTable_30 : decode qc_N_loadTable 30 = .ok (.invokevirtual 114, 3) := by decide +kernel
theorem qd_N_loadTable_33 : decode qc_N_loadTable 33 = .ok (.iinc 2 1, 3) := by decide +kernel
theorem qd_N_loadTable_36 : decode qc_N_loadTable 36 = .ok (.goto (-34), 3) := by decide +kernel
theorem qd_N_loadTable_39 : decode qc_N_loadTable 39 = .ok (.return_, 1) := by decide +kernel
theorem qd_N_loadQueued_0 : decode qc_N_loadQueued 0 = .ok (.iconst 0, 1) := by decide +kernel
theorem qd_N_loadQueued_1 : decode qc_N_loadQueued 1 = .ok (.istore_n 2, 1) := by decide +kernel
theorem qd_N_loadQueued_2 : decode qc_N_loadQueued 2 = .ok (.iconst 0, 1) := by decide +kernel
theorem qd_N_loadQueued_3 : decode qc_N_loadQueued 3 = .ok (.istore_n 3, 1) := by decide +kernel
theorem qd_N_loadQueued_4 : decode qc_N_loadQueued 4 = .ok (.iload_n 3, 1) := by decide +kernel
theorem qd_N_loadQueued_5 : decode qc_N_loadQueued 5 = .ok (.iconst 3, 1) := by decide +kernel
theorem qd_N_loadQueued_6 : decode qc_N_loadQueued 6 = .ok (.if_icmp .ge 59, 3) := by decide +kernel
theorem qd_N_loadQueued_9 : decode qc_N_loadQueued 9 = .ok (.aload_n 0, 1) := by decide +kernel
theorem qd_N_loadQueued_10 : decode qc_N_loadQueued 10 = .ok (.iload_n 2, 1) := by decide +kernel
theorem qd_N_loadQueued_11 : decode qc_N_loadQueued 11 = .ok (.invokevirtual 118, 3) := by decide +kernel
theorem qd_N_loadQueued_14 : decode qc_N_loadQueued 14 = .ok (.istore 4, 2) := by decide +kernel
theorem qd_N_loadQueued_16 : decode qc_N_loadQueued 16 = .ok (.iload 4, 2) := by decide +kernel
theorem qd_N_loadQueued_18 : decode qc_N_loadQueued 18 = .ok (.iconst (-1), 1) := by decide +kernel
theorem qd_N_loadQueued_19 : decode qc_N_loadQueued 19 = .ok (.if_icmp .ne 4, 3) := by decide +kernel
theorem qd_N_loadQueued_22 : decode qc_N_loadQueued 22 = .ok (.return_, 1) := by decide +kernel
theorem qd_N_loadQueued_23 : decode qc_N_loadQueued 23 = .ok (.aload_n 1, 1) := by decide +kernel
theorem qd_N_loadQueued_24 : decode qc_N_loadQueued 24 = .ok (.iload 4, 2) := by decide +kernel
theorem qd_N_loadQueued_26 : decode qc_N_loadQueued 26 = .ok (.aload_n 0, 1) := by decide +kernel
theorem qd_N_loadQueued_27 : decode qc_N_loadQueued 27 = .ok (.getfield 30, 3) := by decide +kernel
theorem qd_N_loadQueued_30 : decode qc_N_loadQueued 30 = .ok (.iload 4, 2) := by decide +kernel
theorem qd_N_loadQueued_32 : decode qc_N_loadQueued 32 = .ok (.aaload, 1) := by decide +kernel
theorem qd_N_loadQueued_33 : decode qc_N_loadQueued 33 = .ok (.invokevirtual 114, 3) := by decide +kernel
theorem qd_N_loadQueued_36 : decode qc_N_loadQueued 36 = .ok (.aload_n 0, 1) := by decide +kernel
theorem qd_N_loadQueued_37 : decode qc_N_loadQueued 37 = .ok (.getfield 30, 3) := by decide +kernel
theorem qd_N_loadQueued_40 : decode qc_N_loadQueued 40 = .ok (.iload 4, 2) := by decide +kernel
theorem qd_N_loadQueued_42 : decode qc_N_loadQueued 42 = .ok (.aaload, 1) := by decide +kernel
theorem qd_N_loadQueued_43 : decode qc_N_loadQueued 43 = .ok (.dup, 1) := by decide +kernel
theorem qd_N_loadQueued_44 : decode qc_N_loadQueued 44 = .ok (.getfield 122, 3) := by decide +kernel
theorem qd_N_loadQueued_47 : decode qc_N_loadQueued 47 = .ok (.iconst 1, 1) := by decide +kernel
theorem qd_N_loadQueued_48 : decode qc_N_loadQueued 48 = .ok (.isub, 1) := by decide +kernel
theorem qd_N_loadQueued_49 : decode qc_N_loadQueued 49 = .ok (.putfield 122, 3) := by decide +kernel
theorem qd_N_loadQueued_52 : decode qc_N_loadQueued 52 = .ok (.iload_n 2, 1) := by decide +kernel
theorem qd_N_loadQueued_53 : decode qc_N_loadQueued 53 = .ok (.iconst 1, 1) := by decide +kernel
theorem qd_N_loadQueued_54 : decode qc_N_loadQueued 54 = .ok (.iload 4, 2) := by decide +kernel
theorem qd_N_loadQueued_56 : decode qc_N_loadQueued 56 = .ok (.ishl, 1) := by decide +kernel
theorem qd_N_loadQueued_57 : decode qc_N_loadQueued 57 = .ok (.ior, 1) := by decide +kernel
theorem qd_N_loadQueued_58 : decode qc_N_loadQueued 58 = .ok (.istore_n 2, 1) := by decide +kernel
theorem qd_N_loadQueued_59 : decode qc_N_loadQueued 59 = .ok (.iinc 3 1, 3) := by decide +kernel
theorem qd_N_loadQueued_62 : decode qc_N_loadQueued 62 = .ok (.goto (-58), 3) := by decide +kernel
theorem qd_N_loadQueued_65 : decode qc_N_loadQueued 65 = .ok (.return_, 1) := by decide +kernel
theorem qd_N_mostToSend_0 : decode qc_N_mostToSend 0 = .ok (.iconst (-1), 1) := by decide +kernel
theorem qd_N_mostToSend_1 : decode qc_N_mostToSend 1 = .ok (.istore_n 2, 1) := by decide +kernel
theorem qd_N_mostToSend_2 : decode qc_N_mostToSend 2 = .ok (.iconst 0, 1) := by decide +kernel
theorem qd_N_mostToSend_3 : decode qc_N_mostToSend 3 = .ok (.istore_n 3, 1) := by decide +kernel
theorem qd_N_mostToSend_4 : decode qc_N_mostToSend 4 = .ok (.iconst 0, 1) := by decide +kernel
theorem qd_N_mostToSend_5 : decode qc_N_mostToSend 5 = .ok (.istore 4, 2) := by decide +kernel
theorem qd_N_mostToSend_7 : decode qc_N_mostToSend 7 = .ok (.iload 4, 2) := by decide +kernel
theorem qd_N_mostToSend_9 : decode qc_N_mostToSend 9 = .ok (.aload_n 0, 1) := by decide +kernel
theorem qd_N_mostToSend_10 : decode qc_N_mostToSend 10 = .ok (.getfield 21, 3) := by decide +kernel
theorem qd_N_mostToSend_13 : decode qc_N_mostToSend 13 = .ok (.if_icmp .ge 46, 3) := by decide +kernel
theorem qd_N_mostToSend_16 : decode qc_N_mostToSend 16 = .ok (.iload_n 1, 1) := by decide +kernel
theorem qd_N_mostToSend_17 : decode qc_N_mostToSend 17 = .ok (.iload 4, 2) := by decide +kernel
theorem qd_N_mostToSend_19 : decode qc_N_mostToSend 19 = .ok (.ishr, 1) := by decide +kernel
theorem qd_N_mostToSend_20 : decode qc_N_mostToSend 20 = .ok (.iconst 1, 1) := by decide +kernel
theorem qd_N_mostToSend_21 : decode qc_N_mostToSend 21 = .ok (.iand, 1) := by decide +kernel
theorem qd_N_mostToSend_22 : decode qc_N_mostToSend 22 = .ok (.ifCond .ne 31, 3) := by decide +kernel
theorem qd_N_mostToSend_25 : decode qc_N_mostToSend 25 = .ok (.aload_n 0, 1) := by decide +kernel
theorem qd_N_mostToSend_26 : decode qc_N_mostToSend 26 = .ok (.getfield 30, 3) := by decide +kernel
theorem qd_N_mostToSend_29 : decode qc_N_mostToSend 29 = .ok (.iload 4, 2) := by decide +kernel
theorem qd_N_mostToSend_31 : decode qc_N_mostToSend 31 = .ok (.aaload, 1) := by decide +kernel
theorem qd_N_mostToSend_32 : decode qc_N_mostToSend 32 = .ok (.getfield 122, 3) := by decide +kernel
theorem qd_N_mostToSend_35 : decode qc_N_mostToSend 35 = .ok (.iload_n 3, 1) := by decide +kernel
theorem qd_N_mostToSend_36 : decode qc_N_mostToSend 36 = .ok (.if_icmp .le 17, 3) := by decide +kernel
theorem qd_N_mostToSend_39 : decode qc_N_mostToSend 39 = .ok (.iload 4, 2) := by decide +kernel
theorem qd_N_mostToSend_41 : decode qc_N_mostToSend 41 = .ok (.istore_n 2, 1) := by decide +kernel
theorem qd_N_mostToSend_42 : decode qc_N_mostToSend 42 = .ok (.aload_n 0, 1) := by decide +kernel
theorem qd_N_mostToSend_43 : decode qc_N_mostToSend 43 = .ok (.getfield 30, 3) := by decide +kernel
theorem qd_N_mostToSend_46 : decode qc_N_mostToSend 46 = .ok (.iload 4, 2) := by decide +kernel
theorem qd_N_mostToSend_48 : decode qc_N_mostToSend 48 = .ok (.aaload, 1) := by decide +kernel
theorem qd_N_mostToSend_49 : decode qc_N_mostToSend 49 = .ok (.getfield 122, 3) := by decide +kernel
theorem qd_N_mostToSend_52 : decode qc_N_mostToSend 52 = .ok (.istore_n 3, 1) := by decide +kernel
theorem qd_N_mostToSend_53 : decode qc_N_mostToSend 53 = .ok (.iinc 4 1, 3) := by decide +kernel
theorem qd_N_mostToSend_56 : decode qc_N_mostToSend 56 = .ok (.goto (-49), 3) := by decide +kernel
theorem qd_N_mostToSend_59 : decode qc_N_mostToSend 59 = .ok (.iload_n 2, 1) := by decide +kernel
theorem qd_N_mostToSend_60 : decode qc_N_mostToSend 60 = .ok (.ireturn, 1) := by decide +kernel
theorem qd_N_sayFarewell_0 : decode qc_N_sayFarewell 0 = .ok (.aload_n 0, 1) := by decide +kernel
theorem qd_N_sayFarewell_1 : decode qc_N_sayFarewell 1 = .ok (.getfield 30, 3) := by decide +kernel
theorem qd_N_sayFarewell_4 : decode qc_N_sayFarewell 4 = .ok (.aload_n 0, 1) := by decide +kernel
theorem qd_N_sayFarewell_5 : decode qc_N_sayFarewell 5 = .ok (.getfield 17, 3) := by decide +kernel
theorem qd_N_sayFarewell_8 : decode qc_N_sayFarewell 8 = .ok (.aaload, 1) := by decide +kernel
theorem qd_N_sayFarewell_9 : decode qc_N_sayFarewell 9 = .ok (.iconst 3, 1) := by decide +kernel
theorem qd_N_sayFarewell_10 : decode qc_N_sayFarewell 10 = .ok (.aload_n 0, 1) := by decide +kernel
theorem qd_N_sayFarewell_11 : decode qc_N_sayFarewell 11 = .ok (.getfield 30, 3) := by decide +kernel
theorem qd_N_sayFarewell_14 : decode qc_N_sayFarewell 14 = .ok (.aload_n 0, 1) := by decide +kernel
theorem qd_N_sayFarewell_15 : decode qc_N_sayFarewell 15 = .ok (.getfield 17, 3) := by decide +kernel
theorem qd_N_sayFarewell_18 : decode qc_N_sayFarewell 18 = .ok (.aaload, 1) := by decide +kernel
theorem qd_N_sayFarewell_19 : decode qc_N_sayFarewell 19 = .ok (.getfield 83, 3) := by decide +kernel
theorem qd_N_sayFarewell_22 : decode qc_N_sayFarewell 22 = .ok (.iload_n 1, 1) := by decide +kernel
theorem qd_N_sayFarewell_23 : decode qc_N_sayFarewell 23 = .ok (.invokevirtual 39, 3) := by decide +kernel
theorem qd_N_sayFarewell_26 : decode qc_N_sayFarewell 26 = .ok (.iconst 0, 1) := by decide +kernel
theorem qd_N_sayFarewell_27 : decode qc_N_sayFarewell 27 = .ok (.istore_n 2, 1) := by decide +kernel
theorem qd_N_sayFarewell_28 : decode qc_N_sayFarewell 28 = .ok (.iload_n 2, 1) := by decide +kernel
theorem qd_N_sayFarewell_29 : decode qc_N_sayFarewell 29 = .ok (.aload_n 0, 1) := by decide +kernel
theorem qd_N_sayFarewell_30 : decode qc_N_sayFarewell 30 = .ok (.getfield 21, 3) := by decide +kernel
theorem qd_N_sayFarewell_33 : decode qc_N_sayFarewell 33 = .ok (.if_icmp .ge 39, 3) := by decide +kernel
theorem qd_N_sayFarewell_36 : decode qc_N_sayFarewell 36 = .ok (.iload_n 2, 1) := by decide +kernel
theorem qd_N_sayFarewell_37 : decode qc_N_sayFarewell 37 = .ok (.aload_n 0, 1) := by decide +kernel
theorem qd_N_sayFarewell_38 : decode qc_N_sayFarewell 38 = .ok (.getfield 17, 3) := by decide +kernel
theorem qd_N_sayFarewell_41 : decode qc_N_sayFarewell 41 = .ok (.if_icmp .eq 25, 3) := by decide +kernel
theorem qd_N_sayFarewell_44 : decode qc_N_sayFarewell 44 = .ok (.aload_n 0, 1) := by decide +kernel
theorem qd_N_sayFarewell_45 : decode qc_N_sayFarewell 45 = .ok (.getfield 30, 3) := by decide +kernel
theorem qd_N_sayFarewell_48 : decode qc_N_sayFarewell 48 = .ok (.iload_n 2, 1) := by decide +kernel
theorem qd_N_sayFarewell_49 : decode qc_N_sayFarewell 49 = .ok (.aaload, 1) := by decide +kernel
theorem qd_N_sayFarewell_50 : decode qc_N_sayFarewell 50 = .ok (.getfield 86, 3) := by decide +kernel
theorem qd_N_sayFarewell_53 : decode qc_N_sayFarewell 53 = .ok (.iconst 1, 1) := by decide +kernel
theorem qd_N_sayFarewell_54 : decode qc_N_sayFarewell 54 = .ok (.if_icmp .ne 12, 3) := by decide +kernel
theorem qd_N_sayFarewell_57 : decode qc_N_sayFarewell 57 = .ok (.aload_n 0, 1) := by decide +kernel
theorem qd_N_sayFarewell_58 : decode qc_N_sayFarewell 58 = .ok (.iconst 5, 1) := by decide +kernel
theorem qd_N_sayFarewell_59 : decode qc_N_sayFarewell 59 = .ok (.iload_n 2, 1) := by decide +kernel
theorem qd_N_sayFarewell_60 : decode qc_N_sayFarewell 60 = .ok (.iconst 0, 1) := by decide +kernel
theorem qd_N_sayFarewell_61 : decode qc_N_sayFarewell 61 = .ok (.iconst 0, 1) := by decide +kernel
theorem qd_N_sayFarewell_62 : decode qc_N_sayFarewell 62 = .ok (.iconst 0, 1) := by decide +kernel
theorem qd_N_sayFarewell_63 : decode qc_N_sayFarewell 63 = .ok (.invokevirtual 89, 3) := by decide +kernel
theorem qd_N_sayFarewell_66 : decode qc_N_sayFarewell 66 = .ok (.iinc 2 1, 3) := by decide +kernel
theorem qd_N_sayFarewell_69 : decode qc_N_sayFarewell 69 = .ok (.goto (-41), 3) := by decide +kernel
theorem qd_N_sayFarewell_72 : decode qc_N_sayFarewell 72 = .ok (.return_, 1) := by decide +kernel
theorem qd_N_receive_0 : decode qc_N_receive 0 = .ok (.iconst 0, 1) := by decide +kernel
theorem qd_N_receive_1 : decode qc_N_receive 1 = .ok (.istore_n 3, 1) := by decide +kernel
theorem qd_N_receive_2 : decode qc_N_receive 2 = .ok (.iload_n 3, 1) := by decide +kernel
theorem qd_N_receive_3 : decode qc_N_receive 3 = .ok (.aload_n 1, 1) := by decide +kernel
theorem qd_N_receive_4 : decode qc_N_receive 4 = .ok (.getfield 125, 3) := by decide +kernel
theorem qd_N_receive_7 : decode qc_N_receive 7 = .ok (.if_icmp .ge 48, 3) := by decide +kernel
theorem qd_N_receive_10 : decode qc_N_receive 10 = .ok (.iconst 3, 1) := by decide +kernel
theorem qd_N_receive_11 : decode qc_N_receive 11 = .ok (.iload_n 3, 1) := by decide +kernel
theorem qd_N_receive_12 : decode qc_N_receive 12 = .ok (.imul, 1) := by decide +kernel
theorem qd_N_receive_13 : decode qc_N_receive 13 = .ok (.istore 4, 2) := by decide +kernel
theorem qd_N_receive_15 : decode qc_N_receive 15 = .ok (.aload_n 0, 1) := by decide +kernel
theorem qd_N_receive_16 : decode qc_N_receive 16 = .ok (.aload_n 1, 1) := by decide +kernel
theorem qd_N_receive_17 : decode qc_N_receive 17 = .ok (.getfield 128, 3) := by decide +kernel
theorem qd_N_receive_20 : decode qc_N_receive 20 = .ok (.iload 4, 2) := by decide +kernel
theorem qd_N_receive_22 : decode qc_N_receive 22 = .ok (.iaload, 1) := by decide +kernel
theorem qd_N_receive_23 : decode qc_N_receive 23 = .ok (.aload_n 1, 1) := by decide +kernel
theorem qd_N_receive_24 : decode qc_N_receive 24 = .ok (.getfield 128, 3) := by decide +kernel
theorem qd_N_receive_27 : decode qc_N_receive 27 = .ok (.iload 4, 2) := by decide +kernel
theorem qd_N_receive_29 : decode qc_N_receive 29 = .ok (.iconst 1, 1) := by decide +kernel
theorem qd_N_receive_30 : decode qc_N_receive 30 = .ok (.iadd, 1) := by decide +kernel
theorem qd_N_receive_31 : decode qc_N_receive 31 = .ok (.iaload, 1) := by decide +kernel
theorem qd_N_receive_32 : decode qc_N_receive 32 = .ok (.aload_n 1, 1) := by decide +kernel
theorem qd_N_receive_33 : decode qc_N_receive 33 = .ok (.getfield 128, 3) := by decide +kernel
theorem qd_N_receive_36 : decode qc_N_receive 36 = .ok (.iload 4, 2) := by decide +kernel
theorem qd_N_receive_38 : decode qc_N_receive 38 = .ok (.iconst 2, 1) := by decide +kernel
theorem qd_N_receive_39 : decode qc_N_receive 39 = .ok (.iadd, 1) := by decide +kernel
theorem qd_N_receive_40 : decode qc_N_receive 40 = .ok (.iaload, 1) := by decide +kernel
theorem qd_N_receive_41 : decode qc_N_receive 41 = .ok (.aload_n 1, 1) := by decide +kernel
theorem qd_N_receive_42 : decode qc_N_receive 42 = .ok (.getfield 132, 3) := by decide +kernel
theorem qd_N_receive_45 : decode qc_N_receive 45 = .ok (.iload_n 2, 1) := by decide +kernel
theorem qd_N_receive_46 : decode qc_N_receive 46 = .ok (.invokevirtual 135, 3) := by decide +kernel
theorem qd_N_receive_49 : decode qc_N_receive 49 = .ok (.iinc 3 1, 3) := by decide +kernel
theorem qd_N_receive_52 : decode qc_N_receive 52 = .ok (.goto (-50), 3) := by decide +kernel
theorem qd_N_receive_55 : decode qc_N_receive 55 = .ok (.aload_n 1, 1) := by decide +kernel
theorem qd_N_receive_56 : decode qc_N_receive 56 = .ok (.getfield 138, 3) := by decide +kernel
theorem qd_N_receive_59 : decode qc_N_receive 59 = .ok (.tableswitch 114 1 6 #[37, 61, 69, 77, 114, 98], 37) := by decide +kernel
theorem qd_N_receive_96 : decode qc_N_receive 96 = .ok (.aload_n 0, 1) := by decide +kernel
theorem qd_N_receive_97 : decode qc_N_receive 97 = .ok (.iconst 2, 1) := by decide +kernel
theorem qd_N_receive_98 : decode qc_N_receive 98 = .ok (.aload_n 1, 1) := by decide +kernel
theorem qd_N_receive_99 : decode qc_N_receive 99 = .ok (.getfield 132, 3) := by decide +kernel
theorem qd_N_receive_102 : decode qc_N_receive 102 = .ok (.aload_n 1, 1) := by decide +kernel
theorem qd_N_receive_103 : decode qc_N_receive 103 = .ok (.getfield 141, 3) := by decide +kernel
theorem qd_N_receive_106 : decode qc_N_receive 106 = .ok (.aload_n 1, 1) := by decide +kernel
theorem qd_N_receive_107 : decode qc_N_receive 107 = .ok (.getfield 144, 3) := by decide +kernel
theorem qd_N_receive_110 : decode qc_N_receive 110 = .ok (.aload_n 1, 1) := by decide +kernel
theorem qd_N_receive_111 : decode qc_N_receive 111 = .ok (.getfield 147, 3) := by decide +kernel
theorem qd_N_receive_114 : decode qc_N_receive 114 = .ok (.invokevirtual 89, 3) := by decide +kernel
theorem qd_N_receive_117 : decode qc_N_receive 117 = .ok (.goto 56, 3) := by decide +kernel
theorem qd_N_receive_120 : decode qc_N_receive 120 = .ok (.aload_n 0, 1) := by decide +kernel
theorem qd_N_receive_121 : decode qc_N_receive 121 = .ok (.aload_n 1, 1) := by decide +kernel
theorem qd_N_receive_122 : decode qc_N_receive 122 = .ok (.invokevirtual 150, 3) := by decide +kernel
theorem qd_N_receive_125 : decode qc_N_receive 125 = .ok (.goto 48, 3) := by decide +kernel
theorem qd_N_receive_128 : decode qc_N_receive 128 = .ok (.aload_n 0, 1) := by decide +kernel
theorem qd_N_receive_129 : decode qc_N_receive 129 = .ok (.aload_n 1, 1) := by decide +kernel
theorem qd_N_receive_130 : decode qc_N_receive 130 = .ok (.invokevirtual 153, 3) := by decide +kernel
theorem qd_N_receive_133 : decode qc_N_receive 133 = .ok (.goto 40, 3) := by decide +kernel
theorem qd_N_receive_136 : decode qc_N_receive 136 = .ok (.aload_n 0, 1) := by decide +kernel
theorem qd_N_receive_137 : decode qc_N_receive 137 = .ok (.aload_n 1, 1) := by decide +kernel
theorem qd_N_receive_138 : decode qc_N_receive 138 = .ok (.invokevirtual 156, 3) := by decide +kernel
theorem qd_N_receive_141 : decode qc_N_receive 141 = .ok (.ifCond .eq 32, 3) := by decide +kernel
theorem qd_N_receive_144 : decode qc_N_receive 144 = .ok (.aload_n 0, 1) := by decide +kernel
theorem qd_N_receive_145 : decode qc_N_receive 145 = .ok (.dup, 1) := by decide +kernel
theorem qd_N_receive_146 : decode qc_N_receive 146 = .ok (.getfield 77, 3) := by decide +kernel
theorem qd_N_receive_149 : decode qc_N_receive 149 = .ok (.iconst 1, 1) := by decide +kernel
theorem qd_N_receive_150 : decode qc_N_receive 150 = .ok (.iadd, 1) := by decide +kernel
theorem qd_N_receive_151 : decode qc_N_receive 151 = .ok (.putfield 77, 3) := by decide +kernel
theorem qd_N_receive_154 : decode qc_N_receive 154 = .ok (.goto 19, 3) := by decide +kernel
theorem qd_N_receive_157 : decode qc_N_receive 157 = .ok (.aload_n 0, 1) := by decide +kernel
theorem qd_N_receive_158 : decode qc_N_receive 158 = .ok (.bipush 7, 2) := by decide +kernel
theorem qd_N_receive_160 : decode qc_N_receive 160 = .ok (.aload_n 1, 1) := by decide +kernel
theorem qd_N_receive_161 : decode qc_N_receive 161 = .ok (.getfield 132, 3) := by decide +kernel
theorem qd_N_receive_164 : decode qc_N_receive 164 = .ok (.iconst 0, 1) := by decide +kernel
theorem qd_N_receive_165 : decode qc_N_receive 165 = .ok (.iconst 0, 1) := by decide +kernel
theorem qd_N_receive_166 : decode qc_N_receive 166 = .ok (.iconst 0, 1) := by decide +kernel
theorem qd_N_receive_167 : decode qc_N_receive 167 = .ok (.invokevirtual 89, 3) := by decide +kernel
theorem qd_N_receive_170 : decode qc_N_receive 170 = .ok (.goto 3, 3) := by decide +kernel
theorem qd_N_receive_173 : decode qc_N_receive 173 = .ok (.return_, 1) := by decide +kernel
theorem qd_N_learn_0 : decode qc_N_learn 0 = .ok (.aload_n 0, 1) := by decide +kernel
theorem qd_N_learn_1 : decode qc_N_learn 1 = .ok (.getfield 30, 3) := by decide +kernel
theorem qd_N_learn_4 : decode qc_N_learn 4 = .ok (.iload_n 1, 1) := by decide +kernel
theorem qd_N_learn_5 : decode qc_N_learn 5 = .ok (.aaload, 1) := by decide +kernel
theorem qd_N_learn_6 : decode qc_N_learn 6 = .ok (.astore 6, 2) := by decide +kernel
theorem qd_N_learn_8 : decode qc_N_learn 8 = .ok (.iload_n 1, 1) := by decide +kernel
theorem qd_N_learn_9 : decode qc_N_learn 9 = .ok (.aload_n 0, 1) := by decide +kernel
theorem qd_N_learn_10 : decode qc_N_learn 10 = .ok (.getfield 17, 3) := by decide +kernel
theorem qd_N_learn_13 : decode qc_N_learn 13 = .ok (.if_icmp .ne 18, 3) := by decide +kernel
theorem qd_N_learn_16 : decode qc_N_learn 16 = .ok (.iload_n 2, 1) := by decide +kernel
theorem qd_N_learn_17 : decode qc_N_learn 17 = .ok (.iconst 1, 1) := by decide +kernel
theorem qd_N_learn_18 : decode qc_N_learn 18 = .ok (.if_icmp .eq 77, 3) := by decide +kernel
theorem qd_N_learn_21 : decode qc_N_learn 21 = .ok (.aload_n 0, 1) := by decide +kernel
theorem qd_N_learn_22 : decode qc_N_learn 22 = .ok (.iload_n 3, 1) := by decide +kernel
theorem qd_N_learn_23 : decode qc_N_learn 23 = .ok (.iload 5, 2) := by decide +kernel
theorem qd_N_learn_25 : decode qc_N_learn 25 = .ok (.invokevirtual 160, 3) := by decide +kernel
theorem qd_N_learn_28 : decode qc_N_learn 28 = .ok (.goto 67, 3) := by decide +kernel
theorem qd_N_learn_31 : decode qc_N_learn 31 = .ok (.aload 6, 2) := by decide +kernel
theorem qd_N_learn_33 : decode qc_N_learn 33 = .ok (.iload_n 2, 1) := by decide +kernel
theorem qd_N_learn_34 : decode qc_N_learn 34 = .ok (.iload_n 3, 1) := by decide +kernel
theorem qd_N_learn_35 : decode qc_N_learn 35 = .ok (.invokevirtual 164, 3) := by decide +kernel
theorem qd_N_learn_38 : decode qc_N_learn 38 = .ok (.ifCond .eq 33, 3) := by decide +kernel
theorem qd_N_learn_41 : decode qc_N_learn 41 = .ok (.iload_n 2, 1) := by decide +kernel
theorem qd_N_learn_42 : decode qc_N_learn 42 = .ok (.iconst 2, 1) := by decide +kernel
theorem qd_N_learn_43 : decode qc_N_learn 43 = .ok (.if_icmp .ne 16, 3) := by decide +kernel
theorem qd_N_learn_46 : decode qc_N_learn 46 = .ok (.aload 6, 2) := by decide +kernel
theorem qd_N_learn_48 : decode qc_N_learn 48 = .ok (.iload_n 3, 1) := by decide +kernel
theorem qd_N_learn_49 : decode qc_N_learn 49 = .ok (.iload 5, 2) := by decide +kernel
theorem qd_N_learn_51 : decode qc_N_learn 51 = .ok (.iload 4, 2) := by decide +kernel
theorem qd_N_learn_53 : decode qc_N_learn 53 = .ok (.invokevirtual 168, 3) := by decide +kernel
theorem qd_N_learn_56 : decode qc_N_learn 56 = .ok (.goto 39, 3) := by decide +kernel
theorem qd_N_learn_59 : decode qc_N_learn 59 = .ok (.aload 6, 2) := by decide +kernel
theorem qd_N_learn_61 : decode qc_N_learn 61 = .ok (.iload_n 2, 1) := by decide +kernel
theorem qd_N_learn_62 : decode qc_N_learn 62 = .ok (.iload_n 3, 1) := by decide +kernel
theorem qd_N_learn_63 : decode qc_N_learn 63 = .ok (.iload 5, 2) := by decide +kernel
theorem qd_N_learn_65 : decode qc_N_learn 65 = .ok (.invokevirtual 39, 3) := by decide +kernel
theorem qd_N_learn_68 : decode qc_N_learn 68 = .ok (.goto 27, 3) := by decide +kernel
theorem qd_N_learn_71 : decode qc_N_learn 71 = .ok (.aload 6, 2) := by decide +kernel
theorem qd_N_learn_73 : decode qc_N_learn 73 = .ok (.iload_n 2, 1) := by decide +kernel
theorem qd_N_learn_74 : decode qc_N_learn 74 = .ok (.iload_n 3, 1) := by decide +kernel
theorem qd_N_learn_75 : decode qc_N_learn 75 = .ok (.invokevirtual 171, 3) := by decide +kernel
theorem qd_N_learn_78 : decode qc_N_learn 78 = .ok (.ifCond .eq 17, 3) := by decide +kernel
theorem qd_N_learn_81 : decode qc_N_learn 81 = .ok (.aload 6, 2) := by decide +kernel
theorem qd_N_learn_83 : decode qc_N_learn 83 = .ok (.dup, 1) := by decide +kernel
theorem qd_N_learn_84 : decode qc_N_learn 84 = .ok (.getfield 174, 3) := by decide +kernel
theorem qd_N_learn_87 : decode qc_N_learn 87 = .ok (.iconst 1, 1) := by decide +kernel
theorem qd_N_learn_88 : decode qc_N_learn 88 = .ok (.iload 4, 2) := by decide +kernel
theorem qd_N_learn_90 : decode qc_N_learn 90 = .ok (.ishl, 1) := by decide +kernel
theorem qd_N_learn_91 : decode qc_N_learn 91 = .ok (.ior, 1) := by decide +kernel
theorem qd_N_learn_92 : decode qc_N_learn 92 = .ok (.putfield 174, 3) := by decide +kernel
theorem qd_N_learn_95 : decode qc_N_learn 95 = .ok (.return_, 1) := by decide +kernel
theorem qd_N_refute_0 : decode qc_N_refute 0 = .ok (.aload_n 0, 1) := by decide +kernel
theorem qd_N_refute_1 : decode qc_N_refute 1 = .ok (.getfield 30, 3) := by decide +kernel
theorem qd_N_refute_4 : decode qc_N_refute 4 = .ok (.aload_n 0, 1) := by decide +kernel
theorem qd_N_refute_5 : decode qc_N_refute 5 = .ok (.getfield 17, 3) := by decide +kernel
theorem qd_N_refute_8 : decode qc_N_refute 8 = .ok (.aaload, 1) := by decide +kernel
theorem qd_N_refute_9 : decode qc_N_refute 9 = .ok (.astore_n 3, 1) := by decide +kernel
theorem qd_N_refute_10 : decode qc_N_refute 10 = .ok (.iload_n 1, 1) := by decide +kernel
theorem qd_N_refute_11 : decode qc_N_refute 11 = .ok (.aload_n 3, 1) := by decide +kernel
theorem qd_N_refute_12 : decode qc_N_refute 12 = .ok (.getfield 83, 3) := by decide +kernel
theorem qd_N_refute_15 : decode qc_N_refute 15 = .ok (.if_icmp .lt 17, 3) := by decide +kernel
theorem qd_N_refute_18 : decode qc_N_refute 18 = .ok (.aload_n 3, 1) := by decide +kernel
theorem qd_N_refute_19 : decode qc_N_refute 19 = .ok (.iconst 1, 1) := by decide +kernel
theorem qd_N_refute_20 : decode qc_N_refute 20 = .ok (.iload_n 1, 1) := by decide +kernel
theorem qd_N_refute_21 : decode qc_N_refute 21 = .ok (.iconst 1, 1) := by decide +kernel
theorem qd_N_refute_22 : decode qc_N_refute 22 = .ok (.iadd, 1) := by decide +kernel
theorem qd_N_refute_23 : decode qc_N_refute 23 = .ok (.iload_n 2, 1) := by decide +kernel
theorem qd_N_refute_24 : decode qc_N_refute 24 = .ok (.invokevirtual 39, 3) := by decide +kernel
theorem qd_N_refute_27 : decode qc_N_refute 27 = .ok (.aload_n 0, 1) := by decide +kernel
theorem qd_N_refute_28 : decode qc_N_refute 28 = .ok (.iconst 1, 1) := by decide +kernel
theorem qd_N_refute_29 : decode qc_N_refute 29 = .ok (.invokevirtual 177, 3) := by decide +kernel
theorem qd_N_refute_32 : decode qc_N_refute 32 = .ok (.aload_n 3, 1) := by decide +kernel
theorem qd_N_refute_33 : decode qc_N_refute 33 = .ok (.invokevirtual 181, 3) := by decide +kernel
theorem qd_N_refute_36 : decode qc_N_refute 36 = .ok (.return_, 1) := by decide +kernel
theorem qd_N_raiseScore_0 : decode qc_N_raiseScore 0 = .ok (.aload_n 0, 1) := by decide +kernel
theorem qd_N_raiseScore_1 : decode qc_N_raiseScore 1 = .ok (.iconst 4, 1) := by decide +kernel
theorem qd_N_raiseScore_2 : decode qc_N_raiseScore 2 = .ok (.aload_n 0, 1) := by decide +kernel
theorem qd_N_raiseScore_3 : decode qc_N_raiseScore 3 = .ok (.getfield 50, 3) := by decide +kernel
theorem qd_N_raiseScore_6 : decode qc_N_raiseScore 6 = .ok (.iload_n 1, 1) := by decide +kernel
theorem qd_N_raiseScore_7 : decode qc_N_raiseScore 7 = .ok (.iadd, 1) := by decide +kernel
theorem qd_N_raiseScore_8 : decode qc_N_raiseScore 8 = .ok (.invokestatic 184, 3) := by decide +kernel
theorem qd_N_raiseScore_11 : decode qc_N_raiseScore 11 = .ok (.putfield 50, 3) := by decide +kernel
theorem qd_N_raiseScore_14 : decode qc_N_raiseScore 14 = .ok (.return_, 1) := by decide +kernel
theorem qd_N_takeAck_0 : decode qc_N_takeAck 0 = .ok (.aload_n 1, 1) := by decide +kernel
theorem qd_N_takeAck_1 : decode qc_N_takeAck 1 = .ok (.getfield 144, 3) := by decide +kernel
theorem qd_N_takeAck_4 : decode qc_N_takeAck 4 = .ok (.aload_n 0, 1) := by decide +kernel
theorem qd_N_takeAck_5 : decode qc_N_takeAck 5 = .ok (.getfield 17, 3) := by decide +kernel
theorem qd_N_takeAck_8 : decode qc_N_takeAck 8 = .ok (.if_icmp .ne 17, 3) := by decide +kernel
theorem qd_N_takeAck_11 : decode qc_N_takeAck 11 = .ok (.aload_n 0, 1) := by decide +kernel
theorem qd_N_takeAck_12 : decode qc_N_takeAck 12 = .ok (.aload_n 1, 1) := by decide +kernel
theorem qd_N_takeAck_13 : decode qc_N_takeAck 13 = .ok (.invokevirtual 156, 3) := by decide +kernel
theorem qd_N_takeAck_16 : decode qc_N_takeAck 16 = .ok (.ifCond .eq 8, 3) := by decide +kernel
theorem qd_N_takeAck_19 : decode qc_N_takeAck 19 = .ok (.aload_n 0, 1) := by decide +kernel
theorem qd_N_takeAck_20 : decode qc_N_takeAck 20 = .ok (.iconst 1, 1) := by decide +kernel
theorem qd_N_takeAck_21 : decode qc_N_takeAck 21 = .ok (.putfield 71, 3) := by decide +kernel
theorem qd_N_takeAck_24 : decode qc_N_takeAck 24 = .ok (.return_, 1) := by decide +kernel
theorem qd_N_takeAck_25 : decode qc_N_takeAck 25 = .ok (.iconst 0, 1) := by decide +kernel
theorem qd_N_takeAck_26 : decode qc_N_takeAck 26 = .ok (.istore_n 2, 1) := by decide +kernel
theorem qd_N_takeAck_27 : decode qc_N_takeAck 27 = .ok (.iload_n 2, 1) := by decide +kernel
theorem qd_N_takeAck_28 : decode qc_N_takeAck 28 = .ok (.aload_n 0, 1) := by decide +kernel
theorem qd_N_takeAck_29 : decode qc_N_takeAck 29 = .ok (.getfield 53, 3) := by decide +kernel
theorem qd_N_takeAck_32 : decode qc_N_takeAck 32 = .ok (.if_icmp .ge 49, 3) := by decide +kernel
theorem qd_N_takeAck_35 : decode qc_N_takeAck 35 = .ok (.aload_n 0, 1) := by decide +kernel
theorem qd_N_takeAck_36 : decode qc_N_takeAck 36 = .ok (.getfield 13, 3) := by decide +kernel
theorem qd_N_takeAck_39 : decode qc_N_takeAck 39 = .ok (.iload_n 2, 1) := by decide +kernel
theorem qd_N_takeAck_40 : decode qc_N_takeAck 40 = .ok (.aaload, 1) := by decide +kernel
theorem qd_N_takeAck_41 : decode qc_N_takeAck 41 = .ok (.aload_n 1, 1) := by decide +kernel
theorem qd_N_takeAck_42 : decode qc_N_takeAck 42 = .ok (.invokevirtual 190, 3) := by decide +kernel
theorem qd_N_takeAck_45 : decode qc_N_takeAck 45 = .ok (.ifCond .eq 30, 3) := by decide +kernel
theorem qd_N_takeAck_48 : decode qc_N_takeAck 48 = .ok (.aload_n 0, 1) := by decide +kernel
theorem qd_N_takeAck_49 : decode qc_N_takeAck 49 = .ok (.iload_n 2, 1) := by decide +kernel
theorem qd_N_takeAck_50 : decode qc_N_takeAck 50 = .ok (.invokevirtual 193, 3) := by decide +kernel
theorem qd_N_takeAck_53 : decode qc_N_takeAck 53 = .ok (.aload_n 0, 1) := by decide +kernel
theorem qd_N_takeAck_54 : decode qc_N_takeAck 54 = .ok (.iconst 2, 1) := by decide +kernel
theorem qd_N_takeAck_55 : decode qc_N_takeAck 55 = .ok (.aload_n 1, 1) := by decide +kernel
theorem qd_N_takeAck_56 : decode qc_N_takeAck 56 = .ok (.getfield 144, 3) := by decide +kernel
theorem qd_N_takeAck_59 : decode qc_N_takeAck 59 = .ok (.aload_n 1, 1) := by decide +kernel
theorem qd_N_takeAck_60 : decode qc_N_takeAck 60 = .ok (.getfield 141, 3) := by decide +kernel
theorem qd_N_takeAck_63 : decode qc_N_takeAck 63 = .ok (.aload_n 1, 1) := by decide +kernel
theorem qd_N_takeAck_64 : decode qc_N_takeAck 64 = .ok (.getfield 144, 3) := by decide +kernel
theorem qd_N_takeAck_67 : decode qc_N_takeAck 67 = .ok (.aload_n 1, 1) := by decide +kernel
theorem qd_N_takeAck_68 : decode qc_N_takeAck 68 = .ok (.getfield 147, 3) := by decide +kernel
theorem qd_N_takeAck_71 : decode qc_N_takeAck 71 = .ok (.invokevirtual 89, 3) := by decide +kernel
theorem qd_N_takeAck_74 : decode qc_N_takeAck 74 = .ok (.return_, 1) := by decide +kernel
theorem qd_N_takeAck_75 : decode qc_N_takeAck 75 = .ok (.iinc 2 1, 3) := by decide +kernel
theorem qd_N_takeAck_78 : decode qc_N_takeAck 78 = .ok (.goto (-51), 3) := by decide +kernel
theorem qd_N_takeAck_81 : decode qc_N_takeAck 81 = .ok (.return_, 1) := by decide +kernel
theorem qd_N_isOfProbe_0 : decode qc_N_isOfProbe 0 = .ok (.aload_n 0, 1) := by decide +kernel
theorem qd_N_isOfProbe_1 : decode qc_N_isOfProbe 1 = .ok (.getfield 62, 3) := by decide +kernel
theorem qd_N_isOfProbe_4 : decode qc_N_isOfProbe 4 = .ok (.iconst (-1), 1) := by decide +kernel
theorem qd_N_isOfProbe_5 : decode qc_N_isOfProbe 5 = .ok (.if_icmp .eq 18, 3) := by decide +kernel
theorem qd_N_isOfProbe_8 : decode qc_N_isOfProbe 8 = .ok (.aload_n 1, 1) := by decide +kernel
theorem qd_N_isOfProbe_9 : decode qc_N_isOfProbe 9 = .ok (.getfield 141, 3) := by decide +kernel
theorem qd_N_isOfProbe_12 : decode qc_N_isOfProbe 12 = .ok (.aload_n 0, 1) := by decide +kernel
theorem qd_N_isOfProbe_13 : decode qc_N_isOfProbe 13 = .ok (.getfield 59, 3) := by decide +kernel
theorem qd_N_isOfProbe_16 : decode qc_N_isOfProbe 16 = .ok (.if_icmp .ne 7, 3) := by decide +kernel
theorem qd_N_isOfProbe_19 : decode qc_N_isOfProbe 19 = .ok (.iconst 1, 1) := by decide +kernel
theorem qd_N_isOfProbe_20 : decode qc_N_isOfProbe 20 = .ok (.goto 4, 3) := by decide +kernel
theorem qd_N_isOfProbe_23 : decode qc_N_isOfProbe 23 = .ok (.iconst 0, 1) := by decide +kernel
theorem qd_N_isOfProbe_24 : decode qc_N_isOfProbe 24 = .ok (.ireturn, 1) := by decide +kernel
theorem qd_N_endRelay_0 : decode qc_N_endRelay 0 = .ok (.aload_n 0, 1) := by decide +kernel
theorem qd_N_endRelay_1 : decode qc_N_endRelay 1 = .ok (.getfield 13, 3) := by decide +kernel
theorem qd_N_endRelay_4 : decode qc_N_endRelay 4 = .ok (.iload_n 1, 1) := by decide +kernel
theorem qd_N_endRelay_5 : decode qc_N_endRelay 5 = .ok (.aaload, 1) := by decide +kernel
theorem qd_N_endRelay_6 : decode qc_N_endRelay 6 = .ok (.astore_n 2, 1) := by decide +kernel
theorem qd_N_endRelay_7 : decode qc_N_endRelay 7 = .ok (.iload_n 1, 1) := by decide +kernel
theorem qd_N_endRelay_8 : decode qc_N_endRelay 8 = .ok (.istore_n 3, 1) := by decide +kernel
theorem qd_N_endRelay_9 : decode qc_N_endRelay 9 = .ok (.iload_n 3, 1) := by decide +kernel
theorem qd_N_endRelay_10 : decode qc_N_endRelay 10 = .ok (.aload_n 0, 1) := by decide +kernel
theorem qd_N_endRelay_11 : decode qc_N_endRelay 11 = .ok (.getfield 53, 3) := by decide +kernel
theorem qd_N_endRelay_14 : decode qc_N_endRelay 14 = .ok (.iconst 1, 1) := by decide +kernel
theorem qd_N_endRelay_15 : decode qc_N_endRelay 15 = .ok (.isub, 1) := by decide +kernel
theorem qd_N_endRelay_16 : decode qc_N_endRelay 16 = .ok (.if_icmp .ge 23, 3) := by decide +kernel
theorem qd_N_endRelay_19 : decode qc_N_endRelay 19 = .ok (.aload_n 0, 1) := by decide +kernel
theorem qd_N_endRelay_20 : decode qc_N_endRelay 20 = .ok (.getfield 13, 3) := by decide +kernel
theorem qd_N_endRelay_23 : decode qc_N_endRelay 23 = .ok (.iload_n 3, 1) := by decide +kernel
theorem qd_N_endRelay_24 : decode qc_N_endRelay 24 = .ok (.aload_n 0, 1) := by decide +kernel
theorem qd_N_endRelay_25 : decode qc_N_endRelay 25 = .ok (.getfield 13, 3) := by decide +kernel
theorem qd_N_endRelay_28 : decode qc_N_endRelay 28 = .ok (.iload_n 3, 1) := by decide +kernel
theorem qd_N_endRelay_29 : decode qc_N_endRelay 29 = .ok (.iconst 1, 1) := by decide +kernel
theorem qd_N_endRelay_30 : decode qc_N_endRelay 30 = .ok (.iadd, 1) := by decide +kernel
theorem qd_N_endRelay_31 : decode qc_N_endRelay 31 = .ok (.aaload, 1) := by decide +kernel
theorem qd_N_endRelay_32 : decode qc_N_endRelay 32 = .ok (.aastore, 1) := by decide +kernel
theorem qd_N_endRelay_33 : decode qc_N_endRelay 33 = .ok (.iinc 3 1, 3) := by decide +kernel
theorem qd_N_endRelay_36 : decode qc_N_endRelay 36 = .ok (.goto (-27), 3) := by decide +kernel
theorem qd_N_endRelay_39 : decode qc_N_endRelay 39 = .ok (.aload_n 0, 1) := by decide +kernel
theorem qd_N_endRelay_40 : decode qc_N_endRelay 40 = .ok (.dup, 1) := by decide +kernel
theorem qd_N_endRelay_41 : decode qc_N_endRelay 41 = .ok (.getfield 53, 3) := by decide +kernel
theorem qd_N_endRelay_44 : decode qc_N_endRelay 44 = .ok (.iconst 1, 1) := by decide +kernel
theorem qd_N_endRelay_45 : decode qc_N_endRelay 45 = .ok (.isub, 1) := by decide +kernel
theorem qd_N_endRelay_46 : decode qc_N_endRelay 46 = .ok (.putfield 53, 3) := by decide +kernel
theorem qd_N_endRelay_49 : decode qc_N_endRelay 49 = .ok (.aload_n 0, 1) := by decide +kernel
theorem qd_N_endRelay_50 : decode qc_N_endRelay 50 = .ok (.getfield 13, 3) := by decide +kernel
theorem qd_N_endRelay_53 : decode qc_N_endRelay 53 = .ok (.aload_n 0, 1) := by decide +kernel
theorem qd_N_endRelay_54 : decode qc_N_endRelay 54 = .ok (.getfield 53, 3) := by decide +kernel
theorem qd_N_endRelay_57 : decode qc_N_endRelay 57 = .ok (.aload_n 2, 1) := by decide +kernel
theorem qd_N_endRelay_58 : decode qc_N_endRelay 58 = .ok (.aastore, 1) := by decide +kernel
theorem qd_N_endRelay_59 : decode qc_N_endRelay 59 = .ok (.return_, 1) := by decide +kernel
theorem qd_N_takeAsk_0 : decode qc_N_takeAsk 0 = .ok (.aload_n 0, 1) := by decide +kernel
theorem qd_N_takeAsk_1 : decode qc_N_takeAsk 1 = .ok (.getfield 53, 3) := by decide +kernel
theorem qd_N_takeAsk_4 : decode qc_N_takeAsk 4 = .ok (.iconst 4, 1) := by decide +kernel
theorem qd_N_takeAsk_5 : decode qc_N_takeAsk 5 = .ok (.if_icmp .lt 4, 3) := by decide +kernel
theorem qd_N_takeAsk_8 : decode qc_N_takeAsk 8 = .ok (.return_, 1) := by decide +kernel
theorem qd_N_takeAsk_9 : decode qc_N_takeAsk 9 = .ok (.aload_n 0, 1) := by decide +kernel
theorem qd_N_takeAsk_10 : decode qc_N_takeAsk 10 = .ok (.getfield 13, 3) := by decide +kernel
theorem qd_N_takeAsk_13 : decode qc_N_takeAsk 13 = .ok (.aload_n 0, 1) := by decide +kernel
theorem qd_N_takeAsk_14 : decode qc_N_takeAsk 14 = .ok (.getfield 53, 3) := by decide +kernel
theorem qd_N_takeAsk_17 : decode qc_N_takeAsk 17 = .ok (.aaload, 1) := by decide +kernel
theorem qd_N_takeAsk_18 : decode qc_N_takeAsk 18 = .ok (.astore_n 2, 1) := by decide +kernel
theorem qd_N_takeAsk_19 : decode qc_N_takeAsk 19 = .ok (.aload_n 0, 1) := by decide +kernel
theorem qd_N_takeAsk_20 : decode qc_N_takeAsk 20 = .ok (.dup, 1) := by decide +kernel
theorem qd_N_takeAsk_21 : decode qc_N_takeAsk 21 = .ok (.getfield 53, 3) := by decide +kernel
theorem qd_N_takeAsk_24 : decode qc_N_takeAsk 24 = .ok (.iconst 1, 1) := by decide +kernel
theorem qd_N_takeAsk_25 : decode qc_N_takeAsk 25 = .ok (.iadd, 1) := by decide +kernel
theorem qd_N_takeAsk_26 : decode qc_N_takeAsk 26 = .ok (.putfield 53, 3) := by decide +kernel
theorem qd_N_takeAsk_29 : decode qc_N_takeAsk 29 = .ok (.aload_n 2, 1) := by decide +kernel
theorem qd_N_takeAsk_30 : decode qc_N_takeAsk 30 = .ok (.aload_n 1, 1) := by decide +kernel
theorem qd_N_takeAsk_31 : decode qc_N_takeAsk 31 = .ok (.getfield 141, 3) := by decide +kernel
theorem qd_N_takeAsk_34 : decode qc_N_takeAsk 34 = .ok (.putfield 196, 3) := by decide +kernel
theorem qd_N_takeAsk_37 : decode qc_N_takeAsk 37 = .ok (.aload_n 2, 1) := by decide +kernel
theorem qd_N_takeAsk_38 : decode qc_N_takeAsk 38 = .ok (.aload_n 1, 1) := by decide +kernel
theorem qd_N_takeAsk_39 : decode qc_N_takeAsk 39 = .ok (.getfield 144, 3) := by decide +kernel
theorem qd_N_takeAsk_42 : decode qc_N_takeAsk 42 = .ok (.putfield 197, 3) := by decide +kernel
theorem qd_N_takeAsk_45 : decode qc_N_takeAsk 45 = .ok (.aload_n 2, 1) := by decide +kernel
theorem qd_N_takeAsk_46 : decode qc_N_takeAsk 46 = .ok (.aload_n 1, 1) := by decide +kernel
theorem qd_N_takeAsk_47 : decode qc_N_takeAsk 47 = .ok (.getfield 147, 3) := by decide +kernel
theorem qd_N_takeAsk_50 : decode qc_N_takeAsk 50 = .ok (.putfield 198, 3) := by decide +kernel
theorem qd_N_takeAsk_53 : decode qc_N_takeAsk 53 = .ok (.aload_n 2, 1) := by decide +kernel
theorem qd_N_takeAsk_54 : decode qc_N_takeAsk 54 = .ok (.iconst 0, 1) := by decide +kernel
theorem qd_N_takeAsk_55 : decode qc_N_takeAsk 55 = .ok (.putfield 199, 3) := by decide +kernel
theorem qd_N_takeAsk_58 : decode qc_N_takeAsk 58 = .ok (.aload_n 0, 1) := by decide +kernel
theorem qd_N_takeAsk_59 : decode qc_N_takeAsk 59 = .ok (.iconst 1, 1) := by decide +kernel
theorem qd_N_takeAsk_60 : decode qc_N_takeAsk 60 = .ok (.aload_n 1, 1) := by decide +kernel
theorem qd_N_takeAsk_61 : decode qc_N_takeAsk 61 = .ok (.getfield 147, 3) := by decide +kernel
theorem qd_N_takeAsk_64 : decode qc_N_takeAsk 64 = .ok (.aload_n 1, 1) := by decide +kernel
theorem qd_N_takeAsk_65 : decode qc_N_takeAsk 65 = .ok (.getfield 141, 3) := by decide +kernel
theorem qd_N_takeAsk_68 : decode qc_N_takeAsk 68 = .ok (.aload_n 1, 1) := by decide +kernel
theorem qd_N_takeAsk_69 : decode qc_N_takeAsk 69 = .ok (.getfield 144, 3) := by decide +kernel
theorem qd_N_takeAsk_72 : decode qc_N_takeAsk 72 = .ok (.aload_n 1, 1) := by decide +kernel
theorem qd_N_takeAsk_73 : decode qc_N_takeAsk 73 = .ok (.getfield 147, 3) := by decide +kernel
theorem qd_N_takeAsk_76 : decode qc_N_takeAsk 76 = .ok (.invokevirtual 89, 3) := by decide +kernel
theorem qd_N_takeAsk_79 : decode qc_N_takeAsk 79 = .ok (.return_, 1) := by decide +kernel
theorem qd_N_timer_0 : decode qc_N_timer 0 = .ok (.aload_n 0, 1) := by decide +kernel
theorem qd_N_timer_1 : decode qc_N_timer 1 = .ok (.invokevirtual 202, 3) := by decide +kernel
theorem qd_N_timer_4 : decode qc_N_timer 4 = .ok (.aload_n 0, 1) := by decide +kernel
theorem qd_N_timer_5 : decode qc_N_timer 5 = .ok (.iload_n 1, 1) := by decide +kernel
theorem qd_N_timer_6 : decode qc_N_timer 6 = .ok (.invokevirtual 205, 3) := by decide +kernel
theorem qd_N_timer_9 : decode qc_N_timer 9 = .ok (.aload_n 0, 1) := by decide +kernel
theorem qd_N_timer_10 : decode qc_N_timer 10 = .ok (.getfield 62, 3) := by decide +kernel
theorem qd_N_timer_13 : decode qc_N_timer 13 = .ok (.iconst (-1), 1) := by decide +kernel
theorem qd_N_timer_14 : decode qc_N_timer 14 = .ok (.if_icmp .ne 10, 3) := by decide +kernel
theorem qd_N_timer_17 : decode qc_N_timer 17 = .ok (.aload_n 0, 1) := by decide +kernel
theorem qd_N_timer_18 : decode qc_N_timer 18 = .ok (.invokevirtual 208, 3) := by decide +kernel
theorem qd_N_timer_21 : decode qc_N_timer 21 = .ok (.goto 8, 3) := by decide +kernel
theorem qd_N_timer_24 : decode qc_N_timer 24 = .ok (.aload_n 0, 1) := by decide +kernel
theorem qd_N_timer_25 : decode qc_N_timer 25 = .ok (.iload_n 1, 1) := by decide +kernel
theorem qd_N_timer_26 : decode qc_N_timer 26 = .ok (.invokevirtual 211, 3) := by decide +kernel
theorem qd_N_timer_29 : decode qc_N_timer 29 = .ok (.iload_n 1, 1) := by decide +kernel
theorem qd_N_timer_30 : decode qc_N_timer 30 = .ok (.aload_n 0, 1) := by decide +kernel
theorem qd_N_timer_31 : decode qc_N_timer 31 = .ok (.getfield 47, 3) := by decide +kernel
theorem qd_N_timer_34 : decode qc_N_timer 34 = .ok (.isub, 1) := by decide +kernel
theorem qd_N_timer_35 : decode qc_N_timer 35 = .ok (.bipush 20, 2) := by decide +kernel
theorem qd_N_timer_37 : decode qc_N_timer 37 = .ok (.irem, 1) := by decide +kernel
theorem qd_N_timer_38 : decode qc_N_timer 38 = .ok (.ifCond .ne 7, 3) := by decide +kernel
theorem qd_N_timer_41 : decode qc_N_timer 41 = .ok (.aload_n 0, 1) := by decide +kernel
theorem qd_N_timer_42 : decode qc_N_timer 42 = .ok (.invokevirtual 214, 3) := by decide +kernel
theorem qd_N_timer_45 : decode qc_N_timer 45 = .ok (.return_, 1) := by decide +kernel
theorem qd_N_ageRelays_0 : decode qc_N_ageRelays 0 = .ok (.aload_n 0, 1) := by decide +kernel
theorem qd_N_ageRelays_1 : decode qc_N_ageRelays 1 = .ok (.getfield 53, 3) := by decide +kernel
theorem qd_N_ageRelays_4 : decode qc_N_ageRelays 4 = .ok (.istore_n 1, 1) := by decide +kernel
theorem qd_N_ageRelays_5 : decode qc_N_ageRelays 5 = .ok (.iconst 0, 1) := by decide +kernel
theorem qd_N_ageRelays_6 : decode qc_N_ageRelays 6 = .ok (.istore_n 2, 1) := by decide +kernel
theorem qd_N_ageRelays_7 : decode qc_N_ageRelays 7 = .ok (.iconst 0, 1) := by decide +kernel
theorem qd_N_ageRelays_8 : decode qc_N_ageRelays 8 = .ok (.istore_n 3, 1) := by decide +kernel
theorem qd_N_ageRelays_9 : decode qc_N_ageRelays 9 = .ok (.iload_n 3, 1) := by decide +kernel
theorem qd_N_ageRelays_10 : decode qc_N_ageRelays 10 = .ok (.iload_n 1, 1) := by decide +kernel
theorem qd_N_ageRelays_11 : decode qc_N_ageRelays 11 = .ok (.if_icmp .ge 74, 3) := by decide +kernel
theorem qd_N_ageRelays_14 : decode qc_N_ageRelays 14 = .ok (.aload_n 0, 1) := by decide +kernel
theorem qd_N_ageRelays_15 : decode qc_N_ageRelays 15 = .ok (.getfield 13, 3) := by decide +kernel
theorem qd_N_ageRelays_18 : decode qc_N_ageRelays 18 = .ok (.iload_n 3, 1) := by decide +kernel
theorem qd_N_ageRelays_19 : decode qc_N_ageRelays 19 = .ok (.iload_n 2, 1) := by decide +kernel
theorem qd_N_ageRelays_20 : decode qc_N_ageRelays 20 = .ok (.isub, 1) := by decide +kernel
theorem qd_N_ageRelays_21 : decode qc_N_ageRelays 21 = .ok (.aaload, 1) := by decide +kernel
theorem qd_N_ageRelays_22 : decode qc_N_ageRelays 22 = .ok (.astore 4, 2) := by decide +kernel
theorem qd_N_ageRelays_24 : decode qc_N_ageRelays 24 = .ok (.aload 4, 2) := by decide +kernel
theorem qd_N_ageRelays_26 : decode qc_N_ageRelays 26 = .ok (.dup, 1) := by decide +kernel
theorem qd_N_ageRelays_27 : decode qc_N_ageRelays 27 = .ok (.getfield 199, 3) := by decide +kernel
theorem qd_N_ageRelays_30 : decode qc_N_ageRelays 30 = .ok (.iconst 1, 1) := by decide +kernel
theorem qd_N_ageRelays_31 : decode qc_N_ageRelays 31 = .ok (.iadd, 1) := by decide +kernel
theorem qd_N_ageRelays_32 : decode qc_N_ageRelays 32 = .ok (.putfield 199, 3) := by decide +kernel
theorem qd_N_ageRelays_35 : decode qc_N_ageRelays 35 = .ok (.aload 4, 2) := by decide +kernel
theorem qd_N_ageRelays_37 : decode qc_N_ageRelays 37 = .ok (.getfield 199, 3) := by decide +kernel
theorem qd_N_ageRelays_40 : decode qc_N_ageRelays 40 = .ok (.iconst 3, 1) := by decide +kernel
theorem qd_N_ageRelays_41 : decode qc_N_ageRelays 41 = .ok (.if_icmp .lt 38, 3) := by decide +kernel
theorem qd_N_ageRelays_44 : decode qc_N_ageRelays 44 = .ok (.aload_n 0, 1) := by decide +kernel
theorem qd_N_ageRelays_45 : decode qc_N_ageRelays 45 = .ok (.iload_n 3, 1) := by decide +kernel
theorem qd_N_ageRelays_46 : decode qc_N_ageRelays 46 = .ok (.iload_n 2, 1) := by decide +kernel
theorem qd_N_ageRelays_47 : decode qc_N_ageRelays 47 = .ok (.isub, 1) := by decide +kernel
theorem qd_N_ageRelays_48 : decode qc_N_ageRelays 48 = .ok (.invokevirtual 193, 3) := by decide +kernel
theorem qd_N_ageRelays_51 : decode qc_N_ageRelays 51 = .ok (.iinc 2 1, 3) := by decide +kernel
theorem qd_N_ageRelays_54 : decode qc_N_ageRelays 54 = .ok (.aload_n 0, 1) := by decide +kernel
theorem qd_N_ageRelays_55 : decode qc_N_ageRelays 55 = .ok (.iconst 4, 1) := by decide +kernel
theorem qd_N_ageRelays_56 : decode qc_N_ageRelays 56 = .ok (.aload 4, 2) := by decide +kernel
theorem qd_N_ageRelays_58 : decode qc_N_ageRelays 58 = .ok (.getfield 197, 3) := by decide +kernel
theorem qd_N_ageRelays_61 : decode qc_N_ageRelays 61 = .ok (.aload 4, 2) := by decide +kernel
theorem qd_N_ageRelays_63 : decode qc_N_ageRelays 63 = .ok (.getfield 196, 3) := by decide +kernel
theorem qd_N_ageRelays_66 : decode qc_N_ageRelays 66 = .ok (.aload 4, 2) := by decide +kernel
theorem qd_N_ageRelays_68 : decode qc_N_ageRelays 68 = .ok (.getfield 197, 3) := by decide +kernel
theorem qd_N_ageRelays_71 : decode qc_N_ageRelays 71 = .ok (.aload 4, 2) := by decide +kernel
theorem qd_N_ageRelays_73 : decode qc_N_ageRelays 73 = .ok (.getfield 198, 3) := by decide +kernel
theorem qd_N_ageRelays_76 : decode qc_N_ageRelays 76 = .ok (.invokevirtual 89, 3) := by decide +kernel
theorem qd_N_ageRelays_79 : decode qc_N_ageRelays 79 = .ok (.iinc 3 1, 3) := by decide +kernel
theorem qd_N_ageRelays_82 : decode qc_N_ageRelays 82 = .ok (.goto (-73), 3) := by decide +kernel
theorem qd_N_ageRelays_85 : decode qc_N_ageRelays 85 = .ok (.return_, 1) := by decide +kernel
theorem qd_N_buryOverdue_0 : decode qc_N_buryOverdue 0 = .ok (.iconst 0, 1) := by decide +kernel
theorem qd_N_buryOverdue_1 : decode qc_N_buryOverdue 1 = .ok (.istore_n 2, 1) := by decide +kernel
theorem qd_N_buryOverdue_2 : decode qc_N_buryOverdue 2 = .ok (.iload_n 2, 1) := by decide +kernel
theorem qd_N_buryOverdue_3 : decode qc_N_buryOverdue 3 = .ok (.aload_n 0, 1) := by decide +kernel
theorem qd_N_buryOverdue_4 : decode qc_N_buryOverdue 4 = .ok (.getfield 21, 3) := by decide +kernel
theorem qd_N_buryOverdue_7 : decode qc_N_buryOverdue 7 = .ok (.if_icmp .ge 72, 3) := by decide +kernel
theorem qd_N_buryOverdue_10 : decode qc_N_buryOverdue 10 = .ok (.aload_n 0, 1) := by decide +kernel
theorem qd_N_buryOverdue_11 : decode qc_N_buryOverdue 11 = .ok (.getfield 30, 3) := by decide +kernel
theorem qd_N_buryOverdue_14 : decode qc_N_buryOverdue 14 = .ok (.iload_n 2, 1) := by decide +kernel
theorem qd_N_buryOverdue_15 : decode qc_N_buryOverdue 15 = .ok (.aaload, 1) := by decide +kernel
theorem qd_N_buryOverdue_16 : decode qc_N_buryOverdue 16 = .ok (.astore_n 3, 1) := by decide +kernel
theorem qd_N_buryOverdue_17 : decode qc_N_buryOverdue 17 = .ok (.iload_n 2, 1) := by decide +kernel
theorem qd_N_buryOverdue_18 : decode qc_N_buryOverdue 18 = .ok (.aload_n 0, 1) := by decide +kernel
theorem qd_N_buryOverdue_19 : decode qc_N_buryOverdue 19 = .ok (.getfield 17, 3) := by decide +kernel
theorem qd_N_buryOverdue_22 : decode qc_N_buryOverdue 22 = .ok (.if_icmp .eq 51, 3) := by decide +kernel
theorem qd_N_buryOverdue_25 : decode qc_N_buryOverdue 25 = .ok (.aload_n 3, 1) := by decide +kernel
theorem qd_N_buryOverdue_26 : decode qc_N_buryOverdue 26 = .ok (.getfield 86, 3) := by decide +kernel
theorem qd_N_buryOverdue_29 : decode qc_N_buryOverdue 29 = .ok (.iconst 2, 1) := by decide +kernel
theorem qd_N_buryOverdue_30 : decode qc_N_buryOverdue 30 = .ok (.if_icmp .ne 43, 3) := by decide +kernel
theorem qd_N_buryOverdue_33 : decode qc_N_buryOverdue 33 = .ok (.iconst 3, 1) := by decide +kernel
theorem qd_N_buryOverdue_34 : decode qc_N_buryOverdue 34 = .ok (.aload_n 3, 1) := by decide +kernel
theorem qd_N_buryOverdue_35 : decode qc_N_buryOverdue 35 = .ok (.getfield 174, 3) := by decide +kernel
theorem qd_N_buryOverdue_38 : decode qc_N_buryOverdue 38 = .ok (.invokestatic 217, 3) := by decide +kernel
theorem qd_N_buryOverdue_41 : decode qc_N_buryOverdue 41 = .ok (.invokestatic 184, 3) := by decide +kernel
theorem qd_N_buryOverdue_44 : decode qc_N_buryOverdue 44 = .ok (.istore 4, 2) := by decide +kernel
theorem qd_N_buryOverdue_46 : decode qc_N_buryOverdue 46 = .ok (.iload_n 1, 1) := by decide +kernel
theorem qd_N_buryOverdue_47 : decode qc_N_buryOverdue 47 = .ok (.aload_n 3, 1) := by decide +kernel
theorem qd_N_buryOverdue_48 : decode qc_N_buryOverdue 48 = .ok (.getfield 222, 3) := by decide +kernel
theorem qd_N_buryOverdue_51 : decode qc_N_buryOverdue 51 = .ok (.isub, 1) := by decide +kernel
theorem qd_N_buryOverdue_52 : decode qc_N_buryOverdue 52 = .ok (.bipush 24, 2) := by decide +kernel
theorem qd_N_buryOverdue_54 : decode qc_N_buryOverdue 54 = .ok (.bipush 6, 2) := by decide +kernel
theorem qd_N_buryOverdue_56 : decode qc_N_buryOverdue 56 = .ok (.iload 4, 2) := by decide +kernel
theorem qd_N_buryOverdue_58 : decode qc_N_buryOverdue 58 = .ok (.imul, 1) := by decide +kernel
theorem qd_N_buryOverdue_59 : decode qc_N_buryOverdue 59 = .ok (.isub, 1) := by decide +kernel
theorem qd_N_buryOverdue_60 : decode qc_N_buryOverdue 60 = .ok (.if_icmp .lt 13, 3) := by decide +kernel
theorem qd_N_buryOverdue_63 : decode qc_N_buryOverdue 63 = .ok (.aload_n 3, 1) := by decide +kernel
theorem qd_N_buryOverdue_64 : decode qc_N_buryOverdue 64 = .ok (.iconst 3, 1) := by decide +kernel
theorem qd_N_buryOverdue_65 : decode qc_N_buryOverdue 65 = .ok (.aload_n 3, 1) := by decide +kernel
theorem qd_N_buryOverdue_66 : decode qc_N_buryOverdue 66 = .ok (.getfield 83, 3) := by decide +kernel
theorem qd_N_buryOverdue_69 : decode qc_N_buryOverdue 69 = .ok (.iload_n 1, 1) := by decide +kernel
theorem qd_N_buryOverdue_70 : decode qc_N_buryOverdue 70 = .ok (.invokevirtual 39, 3) := by decide +kernel
theorem qd_N_buryOverdue_73 : decode qc_N_buryOverdue 73 = .ok (.iinc 2 1, 3) := by decide +kernel
theorem qd_N_buryOverdue_76 : decode qc_N_buryOverdue 76 = .ok (.goto (-74), 3) := by decide +kernel
theorem qd_N_buryOverdue_79 : decode qc_N_buryOverdue 79 = .ok (.return_, 1) := by decide +kernel
theorem qd_N_restOrProbe_0 : decode qc_N_restOrProbe 0 = .ok (.aload_n 0, 1) := by decide +kernel
theorem qd_N_restOrProbe_1 : decode qc_N_restOrProbe 1 = .ok (.dup, 1) := by decide +kernel
theorem qd_N_restOrProbe_2 : decode qc_N_restOrProbe 2 = .ok (.getfield 56, 3) := by decide +kernel
theorem qd_N_restOrProbe_5 : decode qc_N_restOrProbe 5 = .ok (.iconst 1, 1) := by decide +kernel
theorem qd_N_restOrProbe_6 : decode qc_N_restOrProbe 6 = .ok (.isub, 1) := by decide +kernel
theorem qd_N_restOrProbe_7 : decode qc_N_restOrProbe 7 = .ok (.putfield 56, 3) := by decide +kernel
theorem qd_N_restOrProbe_10 : decode qc_N_restOrProbe 10 = .ok (.aload_n 0, 1) := by decide +kernel
theorem qd_N_restOrProbe_11 : decode qc_N_restOrProbe 11 = .ok (.getfield 56, 3) := by decide +kernel
theorem qd_N_restOrProbe_14 : decode qc_N_restOrProbe 14 = .ok (.ifCond .le 4, 3) := by decide +kernel
theorem qd_N_restOrProbe_17 : decode qc_N_restOrProbe 17 = .ok (.return_, 1) := by decide +kernel
theorem qd_N_restOrProbe_18 : decode qc_N_restOrProbe 18 = .ok (.aload_n 0, 1) := by decide +kernel
theorem qd_N_restOrProbe_19 : decode qc_N_restOrProbe 19 = .ok (.aload_n 0, 1) := by decide +kernel
theorem qd_N_restOrProbe_20 : decode qc_N_restOrProbe 20 = .ok (.getfield 65, 3) := by decide +kernel
theorem qd_N_restOrProbe_23 : decode qc_N_restOrProbe 23 = .ok (.iconst 2, 1) := by decide +kernel
theorem qd_N_restOrProbe_24 : decode qc_N_restOrProbe 24 = .ok (.invokevirtual 225, 3) := by decide +kernel
theorem qd_N_restOrProbe_27 : decode qc_N_restOrProbe 27 = .ok (.istore_n 1, 1) := by decide +kernel
theorem qd_N_restOrProbe_28 : decode qc_N_restOrProbe 28 = .ok (.iload_n 1, 1) := by decide +kernel
theorem qd_N_restOrProbe_29 : decode qc_N_restOrProbe 29 = .ok (.iconst (-1), 1) := by decide +kernel
theorem qd_N_restOrProbe_30 : decode qc_N_restOrProbe 30 = .ok (.if_icmp .ne 9, 3) := by decide +kernel
theorem qd_N_restOrProbe_33 : decode qc_N_restOrProbe 33 = .ok (.aload_n 0, 1) := by decide +kernel
theorem qd_N_restOrProbe_34 : decode qc_N_restOrProbe 34 = .ok (.iconst 3, 1) := by decide +kernel
theorem qd_N_restOrProbe_35 : decode qc_N_restOrProbe 35 = .ok (.putfield 56, 3) := by decide +kernel
theorem qd_N_restOrProbe_38 : decode qc_N_restOrProbe 38 = .ok (.return_, 1) := by decide +kernel
theorem qd_N_restOrProbe_39 : decode qc_N_restOrProbe 39 = .ok (.aload_n 0, 1) := by decide +kernel
theorem qd_N_restOrProbe_40 : decode qc_N_restOrProbe 40 = .ok (.iload_n 1, 1) := by decide +kernel
theorem qd_N_restOrProbe_41 : decode qc_N_restOrProbe 41 = .ok (.putfield 62, 3) := by decide +kernel
theorem qd_N_restOrProbe_44 : decode qc_N_restOrProbe 44 = .ok (.aload_n 0, 1) := by decide +kernel
theorem qd_N_restOrProbe_45 : decode qc_N_restOrProbe 45 = .ok (.iload_n 1, 1) := by decide +kernel
theorem qd_N_restOrProbe_46 : decode qc_N_restOrProbe 46 = .ok (.putfield 65, 3) := by decide +kernel
theorem qd_N_restOrProbe_49 : decode qc_N_restOrProbe 49 = .ok (.aload_n 0, 1) := by decide +kernel
theorem qd_N_restOrProbe_50 : decode qc_N_restOrProbe 50 = .ok (.dup, 1) := by decide +kernel
theorem qd_N_restOrProbe_51 : decode qc_N_restOrProbe 51 = .ok (.getfield 59, 3) := by decide +kernel
theorem qd_N_restOrProbe_54 : decode qc_N_restOrProbe 54 = .ok (.iconst 1, 1) := by decide +kernel
theorem qd_N_restOrProbe_55 : decode qc_N_restOrProbe 55 = .ok (.iadd, 1) := by decide +kernel
theorem qd_N_restOrProbe_56 : decode qc_N_restOrProbe 56 = .ok (.putfield 59, 3) := by decide +kernel
theorem qd_N_restOrProbe_59 : decode qc_N_restOrProbe 59 = .ok (.aload_n 0, 1) := by decide +kernel
theorem qd_N_restOrProbe_60 : decode qc_N_restOrProbe 60 = .ok (.iconst 0, 1) := by decide +kernel
theorem qd_N_restOrProbe_61 : decode qc_N_restOrProbe 61 = .ok (.putfield 68, 3) := by decide +kernel
theorem qd_N_restOrProbe_64 : decode qc_N_restOrProbe 64 = .ok (.aload_n 0, 1) := by decide +kernel
theorem qd_N_restOrProbe_65 : decode qc_N_restOrProbe 65 = .ok (.iconst 0, 1) := by decide +kernel
theorem qd_N_restOrProbe_66 : decode qc_N_restOrProbe 66 = .ok (.putfield 71, 3) := by decide +kernel
theorem qd_N_restOrProbe_69 : decode qc_N_restOrProbe 69 = .ok (.aload_n 0, 1) := by decide +kernel
theorem qd_N_restOrProbe_70 : decode qc_N_restOrProbe 70 = .ok (.iconst 0, 1) := by decide +kernel
theorem qd_N_restOrProbe_71 : decode qc_N_restOrProbe 71 = .ok (.putfield 74, 3) := by decide +kernel
theorem qd_N_restOrProbe_74 : decode qc_N_restOrProbe 74 = .ok (.aload_n 0, 1) := by decide +kernel
theorem qd_N_restOrProbe_75 : decode qc_N_restOrProbe 75 = .ok (.iconst 0, 1) := by decide +kernel
theorem qd_N_restOrProbe_76 : decode qc_N_restOrProbe 76 = .ok (.putfield 77, 3) := by decide +kernel
theorem qd_N_restOrProbe_79 : decode qc_N_restOrProbe 79 = .ok (.aload_n 0, 1) := by decide +kernel
theorem qd_N_restOrProbe_80 : decode qc_N_restOrProbe 80 = .ok (.iconst 1, 1) := by decide +kernel
theorem qd_N_restOrProbe_81 : decode qc_N_restOrProbe 81 = .ok (.iload_n 1, 1) := by decide +kernel
theorem qd_N_restOrProbe_82 : decode qc_N_restOrProbe 82 = .ok (.aload_n 0, 1) := by decide +kernel
theorem qd_N_restOrProbe_83 : decode qc_N_restOrProbe 83 = .ok (.getfield 59, 3) := by decide +kernel
theorem qd_N_restOrProbe_86 : decode qc_N_restOrProbe 86 = .ok (.aload_n 0, 1) := by decide +kernel
theorem qd_N_restOrProbe_87 : decode qc_N_restOrProbe 87 = .ok (.getfield 17, 3) := by decide +kernel
theorem qd_N_restOrProbe_90 : decode qc_N_restOrProbe 90 = .ok (.iload_n 1, 1) := by decide +kernel
theorem qd_N_restOrProbe_91 : decode qc_N_restOrProbe 91 = .ok (.invokevirtual 89, 3) := by decide +kernel
theorem qd_N_restOrProbe_94 : decode qc_N_restOrProbe 94 = .ok (.return_, 1) := by decide +kernel
theorem qd_N_nextBehind_0 : decode qc_N_nextBehind 0 = .ok (.iconst 1, 1) := by decide +kernel
theorem qd_N_nextBehind_1 : decode qc_N_nextBehind 1 = .ok (.istore_n 3, 1) := by decide +kernel
theorem qd_N_nextBehind_2 : decode qc_N_nextBehind 2 = .ok (.iload_n 3, 1) := by decide +kernel
theorem qd_N_nextBehind_3 : decode qc_N_nextBehind 3 = .ok (.aload_n 0, 1) := by decide +kernel
theorem qd_N_nextBehind_4 : decode qc_N_nextBehind 4 = .ok (.getfield 21, 3) := by decide +kernel
theorem qd_N_nextBehind_7 : decode qc_N_nextBehind 7 = .ok (.if_icmp .gt 58, 3) := by decide +kernel
theorem qd_N_nextBehind_10 : decode qc_N_nextBehind 10 = .ok (.iload_n 1, 1) := by decide +kernel
theorem qd_N_nextBehind_11 : decode qc_N_nextBehind 11 = .ok (.iload_n 3, 1) := by decide +kernel
theorem qd_N_nextBehind_12 : decode qc_N_nextBehind 12 = .ok (.iadd, 1) := by decide +kernel
theorem qd_N_nextBehind_13 : decode qc_N_nextBehind 13 = .ok (.aload_n 0, 1) := by decide +kernel
theorem qd_N_nextBehind_14 : decode qc_N_nextBehind 14 = .ok (.getfield 21, 3) := by decide +kernel
theorem qd_N_nextBehind_17 : decode qc_N_nextBehind 17 = .ok (.irem, 1) := by decide +kernel
theorem qd_N_nextBehind_18 : decode qc_N_nextBehind 18 = .ok (.istore 4, 2) := by decide +kernel
theorem qd_N_nextBehind_20 : decode qc_N_nextBehind 20 = .ok (.iload 4, 2) := by decide +kernel
theorem qd_N_nextBehind_22 : decode qc_N_nextBehind 22 = .ok (.aload_n 0, 1) := by decide +kernel
theorem qd_N_nextBehind_23 : decode qc_N_nextBehind 23 = .ok (.getfield 17, 3) := by decide +kernel
theorem qd_N_nextBehind_26 : decode qc_N_nextBehind 26 = .ok (.if_icmp .eq 33, 3) := by decide +kernel
theorem qd_N_nextBehind_29 : decode qc_N_nextBehind 29 = .ok (.aload_n 0, 1) := by decide +kernel
theorem qd_N_nextBehind_30 : decode qc_N_nextBehind 30 = .ok (.getfield 30, 3) := by decide +kernel
theorem qd_N_nextBehind_33 : decode qc_N_nextBehind 33 = .ok (.iload 4, 2) := by decide +kernel
theorem qd_N_nextBehind_35 : decode qc_N_nextBehind 35 = .ok (.aaload, 1) := by decide +kernel
theorem qd_N_nextBehind_36 : decode qc_N_nextBehind 36 = .ok (.getfield 86, 3) := by decide +kernel
theorem qd_N_nextBehind_39 : decode qc_N_nextBehind 39 = .ok (.ifCond .eq 20, 3) := by decide +kernel
theorem qd_N_nextBehind_42 : decode qc_N_nextBehind 42 = .ok (.aload_n 0, 1) := by decide +kernel
theorem qd_N_nextBehind_43 : decode qc_N_nextBehind 43 = .ok (.getfield 30, 3) := by decide +kernel
theorem qd_N_nextBehind_46 : decode qc_N_nextBehind 46 = .ok (.iload 4, 2) := by decide +kernel
theorem qd_N_nextBehind_48 : decode qc_N_nextBehind 48 = .ok (.aaload, 1) := by decide +kernel
theorem qd_N_nextBehind_49 : decode qc_N_nextBehind 49 = .ok (.getfield 86, 3) := by decide +kernel
theorem qd_N_nextBehind_52 : decode qc_N_nextBehind 52 = .ok (.iload_n 2, 1) := by decide +kernel
theorem qd_N_nextBehind_53 : decode qc_N_nextBehind 53 = .ok (.if_icmp .gt 6, 3) := by decide +kernel
theorem qd_N_nextBehind_56 : decode qc_N_nextBehind 56 = .ok (.iload 4, 2) := by decide +kernel
theorem qd_N_nextBehind_58 : decode qc_N_nextBehind 58 = .ok (.ireturn, 1) := by decide +kernel
theorem qd_N_nextBehind_59 : decode qc_N_nextBehind 59 = .ok (.iinc 3 1, 3) := by decide +kernel
theorem qd_N_nextBehind_62 : decode qc_N_nextBehind 62 = .ok (.goto (-60), 3) := by decide +kernel
theorem qd_N_nextBehind_65 : decode qc_N_nextBehind 65 = .ok (.iconst (-1), 1) := by decide +kernel
theorem qd_N_nextBehind_66 : decode qc_N_nextBehind 66 = .ok (.ireturn, 1) := by decide +kernel
theorem qd_N_goOnProbing_0 : decode qc_N_goOnProbing 0 = .ok (.aload_n 0, 1) := by decide +kernel
theorem qd_N_goOnProbing_1 : decode qc_N_goOnProbing 1 = .ok (.dup, 1) := by decide +kernel
theorem qd_N_goOnProbing_2 : decode qc_N_goOnProbing 2 = .ok (.getfield 68, 3) := by decide +kernel
theorem qd_N_goOnProbing_5 : decode qc_N_goOnProbing 5 = .ok (.iconst 1, 1) := by decide +kernel
theorem qd_N_goOnProbing_6 : decode qc_N_goOnProbing 6 = .ok (.iadd, 1) := by decide +kernel
theorem qd_N_goOnProbing_7 : decode qc_N_goOnProbing 7 = .ok (.putfield 68, 3) := by decide +kernel
theorem qd_N_goOnProbing_10 : decode qc_N_goOnProbing 10 = .ok (.aload_n 0, 1) := by decide +kernel
theorem qd_N_goOnProbing_11 : decode qc_N_goOnProbing 11 = .ok (.getfield 68, 3) := by decide +kernel
theorem qd_N_goOnProbing_14 : decode qc_N_goOnProbing 14 = .ok (.iconst 3, 1) := by decide +kernel
theorem qd_N_goOnProbing_15 : decode qc_N_goOnProbing 15 = .ok (.if_icmp .ne 14, 3) := by decide +kernel
theorem qd_N_goOnProbing_18 : decode qc_N_goOnProbing 18 = .ok (.aload_n 0, 1) := by decide +kernel
theorem qd_N_goOnProbing_19 : decode qc_N_goOnProbing 19 = .ok (.getfield 71, 3) := by decide +kernel
theorem qd_N_goOnProbing_22 : decode qc_N_goOnProbing 22 = .ok (.ifCond .ne 7, 3) := by decide +kernel
theorem qd_N_goOnProbing_25 : decode qc_N_goOnProbing 25 = .ok (.aload_n 0, 1) := by decide +kernel
theorem qd_N_goOnProbing_26 : decode qc_N_goOnProbing 26 = .ok (.invokevirtual 228, 3) := by decide +kernel
theorem qd_N_goOnProbing_29 : decode qc_N_goOnProbing 29 = .ok (.aload_n 0, 1) := by decide +kernel
theorem qd_N_goOnProbing_30 : decode qc_N_goOnProbing 30 = .ok (.getfield 68, 3) := by decide +kernel
theorem qd_N_goOnProbing_33 : decode qc_N_goOnProbing 33 = .ok (.bipush 8, 2) := by decide +kernel
theorem qd_N_goOnProbing_35 : decode qc_N_goOnProbing 35 = .ok (.if_icmp .lt 8, 3) := by decide +kernel
theorem qd_N_goOnProbing_38 : decode qc_N_goOnProbing 38 = .ok (.aload_n 0, 1) := by decide +kernel
theorem qd_N_goOnProbing_39 : decode qc_N_goOnProbing 39 = .ok (.iload_n 1, 1) := by decide +kernel
theorem qd_N_goOnProbing_40 : decode qc_N_goOnProbing 40 = .ok (.invokevirtual 231, 3) := by decide +kernel
theorem qd_N_goOnProbing_43 : decode qc_N_goOnProbing 43 = .ok (.return_, 1) := by decide +kernel
theorem qd_N_askOthers_0 : decode qc_N_askOthers 0 = .ok (.iconst 1, 1) := by decide +kernel
theorem qd_N_askOthers_1 : decode qc_N_askOthers 1 = .ok (.istore_n 1, 1) := by decide +kernel
theorem qd_N_askOthers_2 : decode qc_N_askOthers 2 = .ok (.iload_n 1, 1) := by decide +kernel
theorem qd_N_askOthers_3 : decode qc_N_askOthers 3 = .ok (.aload_n 0, 1) := by decide +kernel
theorem qd_N_askOthers_4 : decode qc_N_askOthers 4 = .ok (.getfield 21, 3) := by decide +kernel
theorem qd_N_askOthers_7 : decode qc_N_askOthers 7 = .ok (.if_icmp .ge 78, 3) := by decide +kernel
theorem qd_N_askOthers_10 : decode qc_N_askOthers 10 = .ok (.aload_n 0, 1) := by decide +kernel
theorem qd_N_askOthers_11 : decode qc_N_askOthers 11 = .ok (.getfield 74, 3) := by decide +kernel
theorem qd_N_askOthers_14 : decode qc_N_askOthers 14 = .ok (.iconst 2, 1) := by decide +kernel
theorem qd_N_askOthers_15 : decode qc_N_askOthers 15 = .ok (.if_icmp .ge 70, 3) := by decide +kernel
theorem qd_N_askOthers_18 : decode qc_N_askOthers 18 = .ok (.aload_n 0, 1) := by decide +kernel
theorem qd_N_askOthers_19 : decode qc_N_askOthers 19 = .ok (.getfield 62, 3) := by decide +kernel
theorem qd_N_askOthers_22 : decode qc_N_askOthers 22 = .ok (.iload_n 1, 1) := by decide +kernel
theorem qd_N_askOthers_23 : decode qc_N_askOthers 23 = .ok (.iadd, 1) := by decide +kernel
theorem qd_N_askOthers_24 : decode qc_N_askOthers 24 = .ok (.aload_n 0, 1) := by decide +kernel
theorem qd_N_askOthers_25 : decode qc_N_askOthers 25 = .ok (.getfield 21, 3) := by decide +kernel
theorem qd_N_askOthers_28 : decode qc_N_askOthers 28 = .ok (.irem, 1) := by decide +kernel
theorem qd_N_askOthers_29 : decode qc_N_askOthers 29 = .ok (.istore_n 2, 1) := by decide +kernel
theorem qd_N_askOthers_30 : decode qc_N_askOthers 30 = .ok (.iload_n 2, 1) := by decide +kernel
theorem qd_N_askOthers_31 : decode qc_N_askOthers 31 = .ok (.aload_n 0, 1) := by decide +kernel
theorem qd_N_askOthers_32 : decode qc_N_askOthers 32 = .ok (.getfield 17, 3) := by decide +kernel
theorem qd_N_askOthers_35 : decode qc_N_askOthers 35 = .ok (.if_icmp .eq 44, 3) := by decide +kernel
theorem qd_N_askOthers_38 : decode qc_N_askOthers 38 = .ok (.aload_n 0, 1) := by decide +kernel
theorem qd_N_askOthers_39 : decode qc_N_askOthers 39 = .ok (.getfield 30, 3) := by decide +kernel
theorem qd_N_askOthers_42 : decode qc_N_askOthers 42 = .ok (.iload_n 2, 1) := by decide +kernel
theorem qd_N_askOthers_43 : decode qc_N_askOthers 43 = .ok (.aaload, 1) := by decide +kernel
theorem qd_N_askOthers_44 : decode qc_N_askOthers 44 = .ok (.getfield 86, 3) := by decide +kernel
theorem qd_N_askOthers_47 : decode qc_N_askOthers 47 = .ok (.iconst 1, 1) := by decide +kernel
theorem qd_N_askOthers_48 : decode qc_N_askOthers 48 = .ok (.if_icmp .ne 31, 3) := by decide +kernel
theorem qd_N_askOthers_51 : decode qc_N_askOthers 51 = .ok (.aload_n 0, 1) := by decide +kernel
theorem qd_N_askOthers_52 : decode qc_N_askOthers 52 = .ok (.iconst 3, 1) := by decide +kernel
theorem qd_N_askOthers_53 : decode qc_N_askOthers 53 = .ok (.iload_n 2, 1) := by decide +kernel
theorem qd_N_askOthers_54 : decode qc_N_askOthers 54 = .ok (.aload_n 0, 1) := by decide +kernel
theorem qd_N_askOthers_55 : decode qc_N_askOthers 55 = .ok (.getfield 59, 3) := by decide +kernel
theorem qd_N_askOthers_58 : decode qc_N_askOthers 58 = .ok (.aload_n 0, 1) := by decide +kernel
theorem qd_N_askOthers_59 : decode qc_N_askOthers 59 = .ok (.getfield 17, 3) := by decide +kernel
theorem qd_N_askOthers_62 : decode qc_N_askOthers 62 = .ok (.aload_n 0, 1) := by decide +kernel
theorem qd_N_askOthers_63 : decode qc_N_askOthers 63 = .ok (.getfield 62, 3) := by decide +kernel
theorem qd_N_askOthers_66 : decode qc_N_askOthers 66 = .ok (.invokevirtual 89, 3) := by decide +kernel
theorem qd_N_askOthers_69 : decode qc_N_askOthers 69 = .ok (.aload_n 0, 1) := by decide +kernel
theorem qd_N_askOthers_70 : decode qc_N_askOthers 70 = .ok (.dup, 1) := by decide +kernel
theorem qd_N_askOthers_71 : decode qc_N_askOthers 71 = .ok (.getfield 74, 3) := by decide +kernel
theorem qd_N_askOthers_74 : decode qc_N_askOthers 74 = .ok (.iconst 1, 1) := by decide +kernel
theorem qd_N_askOthers_75 : decode qc_N_askOthers 75 = .ok (.iadd, 1) := by decide +kernel
theorem qd_N_askOthers_76 : decode qc_N_askOthers 76 = .ok (.putfield 74, 3) := by decide +kernel
theorem qd_N_askOthers_79 : decode qc_N_askOthers 79 = .ok (.iinc 1 1, 3) := by decide +kernel
theorem qd_N_askOthers_82 : decode qc_N_askOthers 82 = .ok (.goto (-80), 3) := by decide +kernel
theorem qd_N_askOthers_85 : decode qc_N_askOthers 85 = .ok (.return_, 1) := by decide +kernel
theorem qd_N_endProbe_0 : decode qc_N_endProbe 0 = .ok (.aload_n 0, 1) := by decide +kernel
theorem qd_N_endProbe_1 : decode qc_N_endProbe 1 = .ok (.getfield 71, 3) := by decide +kernel
theorem qd_N_endProbe_4 : decode qc_N_endProbe 4 = .ok (.ifCond .eq 20, 3) := by decide +kernel
theorem qd_N_endProbe_7 : decode qc_N_endProbe 7 = .ok (.aload_n 0, 1) := by decide +kernel
theorem qd_N_endProbe_8 : decode qc_N_endProbe 8 = .ok (.iconst 0, 1) := by decide +kernel
theorem qd_N_endProbe_9 : decode qc_N_endProbe 9 = .ok (.aload_n 0, 1) := by decide +kernel
theorem qd_N_endProbe_10 : decode qc_N_endProbe 10 = .ok (.getfield 50, 3) := by decide +kernel
theorem qd_N_endProbe_13 : decode qc_N_endProbe 13 = .ok (.iconst 1, 1) := by decide +kernel
theorem qd_N_endProbe_14 : decode qc_N_endProbe 14 = .ok (.isub, 1) := by decide +kernel
theorem qd_N_endProbe_15 : decode qc_N_endProbe 15 = .ok (.invokestatic 234, 3) := by decide +kernel
theorem qd_N_endProbe_18 : decode qc_N_endProbe 18 = .ok (.putfield 50, 3) := by decide +kernel
theorem qd_N_endProbe_21 : decode qc_N_endProbe 21 = .ok (.goto 62, 3) := by decide +kernel
theorem qd_N_endProbe_24 : decode qc_N_endProbe 24 = .ok (.aload_n 0, 1) := by decide +kernel
theorem qd_N_endProbe_25 : decode qc_N_endProbe 25 = .ok (.aload_n 0, 1) := by decide +kernel
theorem qd_N_endProbe_26 : decode qc_N_endProbe 26 = .ok (.getfield 74, 3) := by decide +kernel
theorem qd_N_endProbe_29 : decode qc_N_endProbe 29 = .ok (.ifCond .ne 7, 3) := by decide +kernel
theorem qd_N_endProbe_32 : decode qc_N_endProbe 32 = .ok (.iconst 1, 1) := by decide +kernel
theorem qd_N_endProbe_33 : decode qc_N_endProbe 33 = .ok (.goto 16, 3) := by decide +kernel
theorem qd_N_endProbe_36 : decode qc_N_endProbe 36 = .ok (.iconst 0, 1) := by decide +kernel
theorem qd_N_endProbe_37 : decode qc_N_endProbe 37 = .ok (.aload_n 0, 1) := by decide +kernel
theorem qd_N_endProbe_38 : decode qc_N_endProbe 38 = .ok (.getfield 74, 3) := by decide +kernel
theorem qd_N_endProbe_41 : decode qc_N_endProbe 41 = .ok (.aload_n 0, 1) := by decide +kernel
theorem qd_N_endProbe_42 : decode qc_N_endProbe 42 = .ok (.getfield 77, 3) := by decide +kernel
theorem qd_N_endProbe_45 : decode qc_N_endProbe 45 = .ok (.isub, 1) := by decide +kernel
theorem qd_N_endProbe_46 : decode qc_N_endProbe 46 = .ok (.invokestatic 234, 3) := by decide +kernel
theorem qd_N_endProbe_49 : decode qc_N_endProbe 49 = .ok (.invokevirtual 177, 3) := by decide +kernel
theorem qd_N_endProbe_52 : decode qc_N_endProbe 52 = .ok (.aload_n 0, 1) := by decide +kernel
theorem qd_N_endProbe_53 : decode qc_N_endProbe 53 = .ok (.getfield 30, 3) := by decide +kernel
theorem qd_N_endProbe_56 : decode qc_N_endProbe 56 = .ok (.aload_n 0, 1) := by decide +kernel
theorem qd_N_endProbe_57 : decode qc_N_endProbe 57 = .ok (.getfield 62, 3) := by decide +kernel
theorem qd_N_endProbe_60 : decode qc_N_endProbe 60 = .ok (.aaload, 1) := by decide +kernel
theorem qd_N_endProbe_61 : decode qc_N_endProbe 61 = .ok (.astore_n 2, 1) := by decide +kernel
theorem qd_N_endProbe_62 : decode qc_N_endProbe 62 = .ok (.aload_n 2, 1) := by decide +kernel
theorem qd_N_endProbe_63 : decode qc_N_endProbe 63 = .ok (.getfield 86, 3) := by decide +kernel
theorem qd_N_endProbe_66 : decode qc_N_endProbe 66 = .ok (.iconst 1, 1) := by decide +kernel
theorem qd_N_endProbe_67 : decode qc_N_endProbe 67 = .ok (.if_icmp .ne 16, 3) := by decide +kernel
theorem qd_N_endProbe_70 : decode qc_N_endProbe 70 = .ok (.aload_n 2, 1) := by decide +kernel
theorem qd_N_endProbe_71 : decode qc_N_endProbe 71 = .ok (.aload_n 2, 1) := by decide +kernel
theorem qd_N_endProbe_72 : decode qc_N_endProbe 72 = .ok (.getfield 83, 3) := by decide +kernel
theorem qd_N_endProbe_75 : decode qc_N_endProbe 75 = .ok (.iload_n 1, 1) := by decide +kernel
theorem qd_N_endProbe_76 : decode qc_N_endProbe 76 = .ok (.aload_n 0, 1) := by decide +kernel
theorem qd_N_endProbe_77 : decode qc_N_endProbe 77 = .ok (.getfield 17, 3) := by decide +kernel
theorem qd_N_endProbe_80 : decode qc_N_endProbe 80 = .ok (.invokevirtual 168, 3) := by decide +kernel
theorem qd_N_endProbe_83 : decode qc_N_endProbe 83 = .ok (.aload_n 0, 1) := by decide +kernel
theorem qd_N_endProbe_84 : decode qc_N_endProbe 84 = .ok (.iconst (-1), 1) := by decide +kernel
theorem qd_N_endProbe_85 : decode qc_N_endProbe 85 = .ok (.putfield 62, 3) := by decide +kernel
theorem qd_N_endProbe_88 : decode qc_N_endProbe 88 = .ok (.aload_n 0, 1) := by decide +kernel
theorem qd_N_endProbe_89 : decode qc_N_endProbe 89 = .ok (.iconst 0, 1) := by decide +kernel
theorem qd_N_endProbe_90 : decode qc_N_endProbe 90 = .ok (.putfield 68, 3) := by decide +kernel
theorem qd_N_endProbe_93 : decode qc_N_endProbe 93 = .ok (.aload_n 0, 1) := by decide +kernel
theorem qd_N_endProbe_94 : decode qc_N_endProbe 94 = .ok (.iconst 0, 1) := by decide +kernel
theorem qd_N_endProbe_95 : decode qc_N_endProbe 95 = .ok (.putfield 71, 3) := by decide +kernel
theorem qd_N_endProbe_98 : decode qc_N_endProbe 98 = .ok (.aload_n 0, 1) := by decide +kernel
theorem qd_N_endProbe_99 : decode qc_N_endProbe 99 = .ok (.iconst 1, 1) := by decide +kernel
theorem qd_N_endProbe_100 : decode qc_N_endProbe 100 = .ok (.aload_n 0, 1) := by decide +kernel
theorem qd_N_endProbe_101 : decode qc_N_endProbe 101 = .ok (.getfield 50, 3) := by decide +kernel
theorem qd_N_endProbe_104 : decode qc_N_endProbe 104 = .ok (.iadd, 1) := by decide +kernel
theorem qd_N_endProbe_105 : decode qc_N_endProbe 105 = .ok (.putfield 56, 3) := by decide +kernel
theorem qd_N_endProbe_108 : decode qc_N_endProbe 108 = .ok (.return_, 1) := by decide +kernel
theorem qd_N_syncWithNext_0 : decode qc_N_syncWithNext 0 = .ok (.aload_n 0, 1) := by decide +kernel
theorem qd_N_syncWithNext_1 : decode qc_N_syncWithNext 1 = .ok (.aload_n 0, 1) := by decide +kernel
theorem qd_N_syncWithNext_2 : decode qc_N_syncWithNext 2 = .ok (.getfield 80, 3) := by decide +kernel
theorem qd_N_syncWithNext_5 : decode qc_N_syncWithNext 5 = .ok (.iconst 1, 1) := by decide +kernel
theorem qd_N_syncWithNext_6 : decode qc_N_syncWithNext 6 = .ok (.invokevirtual 225, 3) := by decide +kernel
theorem qd_N_syncWithNext_9 : decode qc_N_syncWithNext 9 = .ok (.istore_n 1, 1) := by decide +kernel
theorem qd_N_syncWithNext_10 : decode qc_N_syncWithNext 10 = .ok (.iload_n 1, 1) := by decide +kernel
theorem qd_N_syncWithNext_11 : decode qc_N_syncWithNext 11 = .ok (.iconst (-1), 1) := by decide +kernel
theorem qd_N_syncWithNext_12 : decode qc_N_syncWithNext 12 = .ok (.if_icmp .eq 18, 3) := by decide +kernel
theorem qd_N_syncWithNext_15 : decode qc_N_syncWithNext 15 = .ok (.aload_n 0, 1) := by decide +kernel
theorem qd_N_syncWithNext_16 : decode qc_N_syncWithNext 16 = .ok (.iload_n 1, 1) := by decide +kernel
theorem qd_N_syncWithNext_17 : decode qc_N_syncWithNext 17 = .ok (.putfield 80, 3) := by decide +kernel
theorem qd_N_syncWithNext_20 : decode qc_N_syncWithNext 20 = .ok (.aload_n 0, 1) := by decide +kernel
theorem qd_N_syncWithNext_21 : decode qc_N_syncWithNext 21 = .ok (.bipush 6, 2) := by decide +kernel
theorem qd_N_syncWithNext_23 : decode qc_N_syncWithNext 23 = .ok (.iload_n 1, 1) := by decide +kernel
theorem qd_N_syncWithNext_24 : decode qc_N_syncWithNext 24 = .ok (.iconst 0, 1) := by decide +kernel
theorem qd_N_syncWithNext_25 : decode qc_N_syncWithNext 25 = .ok (.iconst 0, 1) := by decide +kernel
theorem qd_N_syncWithNext_26 : decode qc_N_syncWithNext 26 = .ok (.iconst 0, 1) := by decide +kernel
theorem qd_N_syncWithNext_27 : decode qc_N_syncWithNext 27 = .ok (.invokevirtual 89, 3) := by decide +kernel
theorem qd_N_syncWithNext_30 : decode qc_N_syncWithNext 30 = .ok (.return_, 1) := by decide +kernel
theorem qd_N_tell_0 : decode qc_N_tell 0 = .ok (.iload_n 1, 1) := by decide +kernel
theorem qd_N_tell_1 : decode qc_N_tell 1 = .ok (.tableswitch 129 0 9 #[55, 68, 81, 86, 91, 96, 109, 114, 119, 124], 55) := by decide +kernel
theorem qd_N_tell_56 : decode qc_N_tell 56 = .ok (.aload_n 0, 1) := by decide +kernel
theorem qd_N_tell_57 : decode qc_N_tell 57 = .ok (.getfield 43, 3) := by decide +kernel
theorem qd_N_tell_60 : decode qc_N_tell 60 = .ok (.ifCond .eq 7, 3) := by decide +kernel
theorem qd_N_tell_63 : decode qc_N_tell 63 = .ok (.iconst 1, 1) := by decide +kernel
theorem qd_N_tell_64 : decode qc_N_tell 64 = .ok (.goto 4, 3) := by decide +kernel
theorem qd_N_tell_67 : decode qc_N_tell 67 = .ok (.iconst 0, 1) := by decide +kernel
theorem qd_N_tell_68 : decode qc_N_tell 68 = .ok (.ireturn, 1) := by decide +kernel
theorem qd_N_tell_69 : decode qc_N_tell 69 = .ok (.aload_n 0, 1) := by decide +kernel
theorem qd_N_tell_70 : decode qc_N_tell 70 = .ok (.getfield 30, 3) := by decide +kernel
theorem qd_N_tell_73 : decode qc_N_tell 73 = .ok (.aload_n 0, 1) := by decide +kernel
theorem qd_N_tell_74 : decode qc_N_tell 74 = .ok (.getfield 17, 3) := by decide +kernel
theorem qd_N_tell_77 : decode qc_N_tell 77 = .ok (.aaload, 1) := by decide +kernel
theorem qd_N_tell_78 : decode qc_N_tell 78 = .ok (.getfield 83, 3) := by decide +kernel
theorem qd_N_tell_81 : decode qc_N_tell 81 = .ok (.ireturn, 1) := by decide +kernel
theorem qd_N_tell_82 : decode qc_N_tell 82 = .ok (.aload_n 0, 1) := by decide +kernel
theorem qd_N_tell_83 : decode qc_N_tell 83 = .ok (.getfield 50, 3) := by decide +kernel
theorem qd_N_tell_86 : decode qc_N_tell 86 = .ok (.ireturn, 1) := by decide +kernel
theorem qd_N_tell_87 : decode qc_N_tell 87 = .ok (.aload_n 0, 1) := by decide +kernel
theorem qd_N_tell_88 : decode qc_N_tell 88 = .ok (.getfield 62, 3) := by decide +kernel
theorem qd_N_tell_91 : decode qc_N_tell 91 = .ok (.ireturn, 1) := by decide +kernel
theorem qd_N_tell_92 : decode qc_N_tell 92 = .ok (.aload_n 0, 1) := by decide +kernel
theorem qd_N_tell_93 : decode qc_N_tell 93 = .ok (.getfield 68, 3) := by decide +kernel
theorem qd_N_tell_96 : decode qc_N_tell 96 = .ok (.ireturn, 1) := by decide +kernel
theorem qd_N_tell_97 : decode qc_N_tell 97 = .ok (.aload_n 0, 1) := by decide +kernel
theorem qd_N_tell_98 : decode qc_N_tell 98 = .ok (.getfield 71, 3) := by decide +kernel
theorem qd_N_tell_101 : decode qc_N_tell 101 = .ok (.ifCond .eq 7, 3) := by decide +kernel
theorem qd_N_tell_104 : decode qc_N_tell 104 = .ok (.iconst 1, 1) := by decide +kernel
theorem qd_N_tell_105 : decode qc_N_tell 105 = .ok (.goto 4, 3) := by decide +kernel
theorem qd_N_tell_108 : decode qc_N_tell 108 = .ok (.iconst 0, 1) := by decide +kernel
theorem qd_N_tell_109 : decode qc_N_tell 109 = .ok (.ireturn, 1) := by decide +kernel
theorem qd_N_tell_110 : decode qc_N_tell 110 = .ok (.aload_n 0, 1) := by decide +kernel
theorem qd_N_tell_111 : decode qc_N_tell 111 = .ok (.getfield 59, 3) := by decide +kernel
theorem qd_N_tell_114 : decode qc_N_tell 114 = .ok (.ireturn, 1) := by decide +kernel
theorem qd_N_tell_115 : decode qc_N_tell 115 = .ok (.aload_n 0, 1) := by decide +kernel
theorem qd_N_tell_116 : decode qc_N_tell 116 = .ok (.getfield 56, 3) := by decide +kernel
theorem qd_N_tell_119 : decode qc_N_tell 119 = .ok (.ireturn, 1) := by decide +kernel
theorem qd_N_tell_120 : decode qc_N_tell 120 = .ok (.aload_n 0, 1) := by decide +kernel
theorem qd_N_tell_121 : decode qc_N_tell 121 = .ok (.invokevirtual 237, 3) := by decide +kernel
theorem qd_N_tell_124 : decode qc_N_tell 124 = .ok (.ireturn, 1) := by decide +kernel
theorem qd_N_tell_125 : decode qc_N_tell 125 = .ok (.aload_n 0, 1) := by decide +kernel
theorem qd_N_tell_126 : decode qc_N_tell 126 = .ok (.getfield 53, 3) := by decide +kernel
theorem qd_N_tell_129 : decode qc_N_tell 129 = .ok (.ireturn, 1) := by decide +kernel
theorem qd_N_tell_130 : decode qc_N_tell 130 = .ok (.iconst 0, 1) := by decide +kernel
theorem qd_N_tell_131 : decode qc_N_tell 131 = .ok (.ireturn, 1) := by decide +kernel
theorem qd_N_countQueued_0 : decode qc_N_countQueued 0 = .ok (.iconst 0, 1) := by decide +kernel
theorem qd_N_countQueued_1 : decode qc_N_countQueued 1 = .ok (.istore_n 1, 1) := by decide +kernel
theorem qd_N_countQueued_2 : decode qc_N_countQueued 2 = .ok (.iconst 0, 1) := by decide +kernel
theorem qd_N_countQueued_3 : decode qc_N_countQueued 3 = .ok (.istore_n 2, 1) := by decide +kernel
theorem qd_N_countQueued_4 : decode qc_N_countQueued 4 = .ok (.iload_n 2, 1) := by decide +kernel
theorem qd_N_countQueued_5 : decode qc_N_countQueued 5 = .ok (.aload_n 0, 1) := by decide +kernel
theorem qd_N_countQueued_6 : decode qc_N_countQueued 6 = .ok (.getfield 21, 3) := by decide +kernel
theorem qd_N_countQueued_9 : decode qc_N_countQueued 9 = .ok (.if_icmp .ge 24, 3) := by decide +kernel
theorem qd_N_countQueued_12 : decode qc_N_countQueued 12 = .ok (.aload_n 0, 1) := by decide +kernel
theorem qd_N_countQueued_13 : decode qc_N_countQueued 13 = .ok (.getfield 30, 3) := by decide +kernel
theorem qd_N_countQueued_16 : decode qc_N_countQueued 16 = .ok (.iload_n 2, 1) := by decide +kernel
theorem qd_N_countQueued_17 : decode qc_N_countQueued 17 = .ok (.aaload, 1) := by decide +kernel
theorem qd_N_countQueued_18 : decode qc_N_countQueued 18 = .ok (.getfield 122, 3) := by decide +kernel
theorem qd_N_countQueued_21 : decode qc_N_countQueued 21 = .ok (.ifCond .le 6, 3) := by decide +kernel
theorem qd_N_countQueued_24 : decode qc_N_countQueued 24 = .ok (.iinc 1 1, 3) := by decide +kernel
theorem qd_N_countQueued_27 : decode qc_N_countQueued 27 = .ok (.iinc 2 1, 3) := by decide +kernel
theorem qd_N_countQueued_30 : decode qc_N_countQueued 30 = .ok (.goto (-26), 3) := by decide +kernel
theorem qd_N_countQueued_33 : decode qc_N_countQueued 33 = .ok (.iload_n 1, 1) := by decide +kernel
theorem qd_N_countQueued_34 : decode qc_N_countQueued 34 = .ok (.ireturn, 1) := by decide +kernel
theorem qd_G_init_0 : decode qc_G_init 0 = .ok (.aload_n 0, 1) := by decide +kernel
theorem qd_G_init_1 : decode qc_G_init 1 = .ok (.invokespecial 1, 3) := by decide +kernel
theorem qd_G_init_4 : decode qc_G_init 4 = .ok (.aload_n 0, 1) := by decide +kernel
theorem qd_G_init_5 : decode qc_G_init 5 = .ok (.bipush 8, 2) := by decide +kernel
theorem qd_G_init_7 : decode qc_G_init 7 = .ok (.iconst 2, 1) := by decide +kernel
theorem qd_G_init_8 : decode qc_G_init 8 = .ok (.iload_n 1, 1) := by decide +kernel
theorem qd_G_init_9 : decode qc_G_init 9 = .ok (.invokestatic 9, 3) := by decide +kernel
theorem qd_G_init_12 : decode qc_G_init 12 = .ok (.invokestatic 15, 3) := by decide +kernel
theorem qd_G_init_15 : decode qc_G_init 15 = .ok (.putfield 18, 3) := by decide +kernel
theorem qd_G_init_18 : decode qc_G_init 18 = .ok (.aload_n 0, 1) := by decide +kernel
theorem qd_G_init_19 : decode qc_G_init 19 = .ok (.new 22, 3) := by decide +kernel
theorem qd_G_init_22 : decode qc_G_init 22 = .ok (.dup, 1) := by decide +kernel
theorem qd_G_init_23 : decode qc_G_init 23 = .ok (.invokespecial 24, 3) := by decide +kernel
theorem qd_G_init_26 : decode qc_G_init 26 = .ok (.putfield 25, 3) := by decide +kernel
theorem qd_G_init_29 : decode qc_G_init 29 = .ok (.aload_n 0, 1) := by decide +kernel
theorem qd_G_init_30 : decode qc_G_init 30 = .ok (.aload_n 0, 1) := by decide +kernel
theorem qd_G_init_31 : decode qc_G_init 31 = .ok (.getfield 18, 3) := by decide +kernel
theorem qd_G_init_34 : decode qc_G_init 34 = .ok (.newarray .int, 2) := by decide +kernel
theorem qd_G_init_36 : decode qc_G_init 36 = .ok (.putfield 29, 3) := by decide +kernel
theorem qd_G_init_39 : decode qc_G_init 39 = .ok (.aload_n 0, 1) := by decide +kernel
theorem qd_G_init_40 : decode qc_G_init 40 = .ok (.aload_n 0, 1) := by decide +kernel
theorem qd_G_init_41 : decode qc_G_init 41 = .ok (.getfield 18, 3) := by decide +kernel
theorem qd_G_init_44 : decode qc_G_init 44 = .ok (.anewarray 33, 3) := by decide +kernel
theorem qd_G_init_47 : decode qc_G_init 47 = .ok (.putfield 35, 3) := by decide +kernel
theorem qd_G_init_50 : decode qc_G_init 50 = .ok (.iconst 0, 1) := by decide +kernel
theorem qd_G_init_51 : decode qc_G_init 51 = .ok (.istore_n 2, 1) := by decide +kernel
theorem qd_G_init_52 : decode qc_G_init 52 = .ok (.iload_n 2, 1) := by decide +kernel
theorem qd_G_init_53 : decode qc_G_init 53 = .ok (.aload_n 0, 1) := by decide +kernel
theorem qd_G_init_54 : decode qc_G_init 54 = .ok (.getfield 18, 3) := by decide +kernel
theorem qd_G_init_57 : decode qc_G_init 57 = .ok (.if_icmp .ge 31, 3) := by decide +kernel
theorem qd_G_init_60 : decode qc_G_init 60 = .ok (.aload_n 0, 1) := by decide +kernel
theorem qd_G_init_61 : decode qc_G_init 61 = .ok (.getfield 35, 3) := by decide +kernel
theorem qd_G_init_64 : decode qc_G_init 64 = .ok (.iload_n 2, 1) := by decide +kernel
theorem qd_G_init_65 : decode qc_G_init 65 = .ok (.new 33, 3) := by decide +kernel
theorem qd_G_init_68 : decode qc_G_init 68 = .ok (.dup, 1) := by decide +kernel
theorem qd_G_init_69 : decode qc_G_init 69 = .ok (.iload_n 2, 1) := by decide +kernel
theorem qd_G_init_70 : decode qc_G_init 70 = .ok (.aload_n 0, 1) := by decide +kernel
theorem qd_G_init_71 : decode qc_G_init 71 = .ok (.getfield 18, 3) := by decide +kernel
theorem qd_G_init_74 : decode qc_G_init 74 = .ok (.aload_n 0, 1) := by decide +kernel
theorem qd_G_init_75 : decode qc_G_init 75 = .ok (.getfield 25, 3) := by decide +kernel
theorem qd_G_init_78 : decode qc_G_init 78 = .ok (.invokespecial 39, 3) := by decide +kernel
theorem qd_G_init_81 : decode qc_G_init 81 = .ok (.aastore, 1) := by decide +kernel
theorem qd_G_init_82 : decode qc_G_init 82 = .ok (.iinc 2 1, 3) := by decide +kernel
theorem qd_G_init_85 : decode qc_G_init 85 = .ok (.goto (-33), 3) := by decide +kernel
theorem qd_G_init_88 : decode qc_G_init 88 = .ok (.aload_n 0, 1) := by decide +kernel
theorem qd_G_init_89 : decode qc_G_init 89 = .ok (.iconst 0, 1) := by decide +kernel
theorem qd_G_init_90 : decode qc_G_init 90 = .ok (.putfield 42, 3) := by decide +kernel
theorem qd_G_init_93 : decode qc_G_init 93 = .ok (.return_, 1) := by decide +kernel
theorem qd_G_start_0 : decode qc_G_start 0 = .ok (.aload_n 0, 1) := by decide +kernel
theorem qd_G_start_1 : decode qc_G_start 1 = .ok (.iload_n 1, 1) := by decide +kernel
theorem qd_G_start_2 : decode qc_G_start 2 = .ok (.invokevirtual 45, 3) := by decide +kernel
theorem qd_G_start_5 : decode qc_G_start 5 = .ok (.ifCond .eq 23, 3) := by decide +kernel
theorem qd_G_start_8 : decode qc_G_start 8 = .ok (.aload_n 0, 1) := by decide +kernel
theorem qd_G_start_9 : decode qc_G_start 9 = .ok (.iload_n 2, 1) := by decide +kernel
theorem qd_G_start_10 : decode qc_G_start 10 = .ok (.invokevirtual 45, 3) := by decide +kernel
theorem qd_G_start_13 : decode qc_G_start 13 = .ok (.ifCond .eq 15, 3) := by decide +kernel
theorem qd_G_start_16 : decode qc_G_start 16 = .ok (.aload_n 0, 1) := by decide +kernel
theorem qd_G_start_17 : decode qc_G_start 17 = .ok (.getfield 35, 3) := by decide +kernel
theorem qd_G_start_20 : decode qc_G_start 20 = .ok (.iload_n 1, 1) := by decide +kernel
theorem qd_G_start_21 : decode qc_G_start 21 = .ok (.aaload, 1) := by decide +kernel
theorem qd_G_start_22 : decode qc_G_start 22 = .ok (.getfield 49, 3) := by decide +kernel
theorem qd_G_start_25 : decode qc_G_start 25 = .ok (.ifCond .eq 5, 3) := by decide +kernel
theorem qd_G_start_28 : decode qc_G_start 28 = .ok (.iconst 0, 1) := by decide +kernel
theorem qd_G_start_29 : decode qc_G_start 29 = .ok (.ireturn, 1) := by decide +kernel
theorem qd_G_start_30 : decode qc_G_start 30 = .ok (.aload_n 0, 1) := by decide +kernel
theorem qd_G_start_31 : decode qc_G_start 31 = .ok (.getfield 35, 3) := by decide +kernel
theorem qd_G_start_34 : decode qc_G_start 34 = .ok (.iload_n 1, 1) := by decide +kernel
theorem qd_G_start_35 : decode qc_G_start 35 = .ok (.aaload, 1) := by decide +kernel
theorem qd_G_start_36 : decode qc_G_start 36 = .ok (.aload_n 0, 1) := by decide +kernel
theorem qd_G_start_37 : decode qc_G_start 37 = .ok (.getfield 42, 3) := by decide +kernel
theorem qd_G_start_40 : decode qc_G_start 40 = .ok (.invokevirtual 53, 3) := by decide +kernel
theorem qd_G_start_43 : decode qc_G_start 43 = .ok (.iload_n 2, 1) := by decide +kernel
theorem qd_G_start_44 : decode qc_G_start 44 = .ok (.iload_n 1, 1) := by decide +kernel
theorem qd_G_start_45 : decode qc_G_start 45 = .ok (.if_icmp .eq 18, 3) := by decide +kernel
theorem qd_G_start_48 : decode qc_G_start 48 = .ok (.aload_n 0, 1) := by decide +kernel
theorem qd_G_start_49 : decode qc_G_start 49 = .ok (.getfield 35, 3) := by decide +kernel
theorem qd_G_start_52 : decode qc_G_start 52 = .ok (.iload_n 1, 1) := by decide +kernel
theorem qd_G_start_53 : decode qc_G_start 53 = .ok (.aaload, 1) := by decide +kernel
theorem qd_G_start_54 : decode qc_G_start 54 = .ok (.bipush 6, 2) := by decide +kernel
theorem qd_G_start_56 : decode qc_G_start 56 = .ok (.iload_n 2, 1) := by decide +kernel
theorem qd_G_start_57 : decode qc_G_start 57 = .ok (.iconst 0, 1) := by decide +kernel
theorem qd_G_start_58 : decode qc_G_start 58 = .ok (.iconst 0, 1) := by decide +kernel
theorem qd_G_start_59 : decode qc_G_start 59 = .ok (.iconst 0, 1) := by decide +kernel
theorem qd_G_start_60 : decode qc_G_start 60 = .ok (.invokevirtual 57, 3) := by decide +kernel
theorem qd_G_start_63 : decode qc_G_start 63 = .ok (.iconst 1, 1) := by decide +kernel
theorem qd_G_start_64 : decode qc_G_start 64 = .ok (.ireturn, 1) := by decide +kernel
theorem qd_G_isNode_0 : decode qc_G_isNode 0 = .ok (.iload_n 1, 1) := by decide +kernel
theorem qd_G_isNode_1 : decode qc_G_isNode 1 = .ok (.ifCond .lt 15, 3) := by decide +kernel
theorem qd_G_isNode_4 : decode qc_G_isNode 4 = .ok (.iload_n 1, 1) := by decide +kernel
theorem qd_G_isNode_5 : decode qc_G_isNode 5 = .ok (.aload_n 0, 1) := by decide +kernel
theorem qd_G_isNode_6 : decode qc_G_isNode 6 = .ok (.getfield 18, 3) := by decide +kernel
theorem qd_G_isNode_9 : decode qc_G_isNode 9 = .ok (.if_icmp .ge 7, 3) := by decide +kernel
theorem qd_G_isNode_12 : decode qc_G_isNode 12 = .ok (.iconst 1, 1) := by decide +kernel
theorem qd_G_isNode_13 : decode qc_G_isNode 13 = .ok (.goto 4, 3) := by decide +kernel
theorem qd_G_isNode_16 : decode qc_G_isNode 16 = .ok (.iconst 0, 1) := by decide +kernel
theorem qd_G_isNode_17 : decode qc_G_isNode 17 = .ok (.ireturn, 1) := by decide +kernel
theorem qd_G_crash_0 : decode qc_G_crash 0 = .ok (.aload_n 0, 1) := by decide +kernel
theorem qd_G_crash_1 : decode qc_G_crash 1 = .ok (.iload_n 1, 1) := by decide +kernel
theorem qd_G_crash_2 : decode qc_G_crash 2 = .ok (.invokevirtual 61, 3) := by decide +kernel
theorem qd_G_crash_5 : decode qc_G_crash 5 = .ok (.ifCond .ne 5, 3) := by decide +kernel
theorem qd_G_crash_8 : decode qc_G_crash 8 = .ok (.iconst 0, 1) := by decide +kernel
theorem qd_G_crash_9 : decode qc_G_crash 9 = .ok (.ireturn, 1) := by decide +kernel
theorem qd_G_crash_10 : decode qc_G_crash 10 = .ok (.aload_n 0, 1) := by decide +kernel
theorem qd_G_crash_11 : decode qc_G_crash 11 = .ok (.getfield 35, 3) := by decide +kernel
theorem qd_G_crash_14 : decode qc_G_crash 14 = .ok (.iload_n 1, 1) := by decide +kernel
theorem qd_G_crash_15 : decode qc_G_crash 15 = .ok (.aaload, 1) := by decide +kernel
theorem qd_G_crash_16 : decode qc_G_crash 16 = .ok (.iconst 0, 1) := by decide +kernel
theorem qd_G_crash_17 : decode qc_G_crash 17 = .ok (.putfield 49, 3) := by decide +kernel
theorem qd_G_crash_20 : decode qc_G_crash 20 = .ok (.iconst 1, 1) := by decide +kernel
theorem qd_G_crash_21 : decode qc_G_crash 21 = .ok (.ireturn, 1) := by decide +kernel
theorem qd_G_isRunning_0 : decode qc_G_isRunning 0 = .ok (.aload_n 0, 1) := by decide +kernel
theorem qd_G_isRunning_1 : decode qc_G_isRunning 1 = .ok (.iload_n 1, 1) := by decide +kernel
theorem qd_G_isRunning_2 : decode qc_G_isRunning 2 = .ok (.invokevirtual 45, 3) := by decide +kernel
theorem qd_G_isRunning_5 : decode qc_G_isRunning 5 = .ok (.ifCond .eq 19, 3) := by decide +kernel
theorem qd_G_isRunning_8 : decode qc_G_isRunning 8 = .ok (.aload_n 0, 1) := by decide +kernel
theorem qd_G_isRunning_9 : decode qc_G_isRunning 9 = .ok (.getfield 35, 3) := by decide +kernel
theorem qd_G_isRunning_12 : decode qc_G_isRunning 12 = .ok (.iload_n 1, 1) := by decide +kernel
theorem qd_G_isRunning_13 : decode qc_G_isRunning 13 = .ok (.aaload, 1) := by decide +kernel
theorem qd_G_isRunning_14 : decode qc_G_isRunning 14 = .ok (.getfield 49, 3) := by decide +kernel
theorem qd_G_isRunning_17 : decode qc_G_isRunning 17 = .ok (.ifCond .eq 7, 3) := by decide +kernel
theorem qd_G_isRunning_20 : decode qc_G_isRunning 20 = .ok (.iconst 1, 1) := by decide +kernel
theorem qd_G_isRunning_21 : decode qc_G_isRunning 21 = .ok (.goto 4, 3) := by decide +kernel
theorem qd_G_isRunning_24 : decode qc_G_isRunning 24 = .ok (.iconst 0, 1) := by decide +kernel
theorem qd_G_isRunning_25 : decode qc_G_isRunning 25 = .ok (.ireturn, 1) := by decide +kernel
theorem qd_G_leave_0 : decode qc_G_leave 0 = .ok (.aload_n 0, 1) := by decide +kernel
theorem qd_G_leave_1 : decode qc_G_leave 1 = .ok (.iload_n 1, 1) := by decide +kernel
theorem qd_G_leave_2 : decode qc_G_leave 2 = .ok (.invokevirtual 61, 3) := by decide +kernel
theorem qd_G_leave_5 : decode qc_G_leave 5 = .ok (.ifCond .ne 5, 3) := by decide +kernel
theorem qd_G_leave_8 : decode qc_G_leave 8 = .ok (.iconst 0, 1) := by decide +kernel
theorem qd_G_leave_9 : decode qc_G_leave 9 = .ok (.ireturn, 1) := by decide +kernel
theorem qd_G_leave_10 : decode qc_G_leave 10 = .ok (.aload_n 0, 1) := by decide +kernel
theorem qd_G_leave_11 : decode qc_G_leave 11 = .ok (.getfield 35, 3) := by decide +kernel
theorem qd_G_leave_14 : decode qc_G_leave 14 = .ok (.iload_n 1, 1) := by decide +kernel
theorem qd_G_leave_15 : decode qc_G_leave 15 = .ok (.aaload, 1) := by decide +kernel
theorem qd_G_leave_16 : decode qc_G_leave 16 = .ok (.aload_n 0, 1) := by decide +kernel
theorem qd_G_leave_17 : decode qc_G_leave 17 = .ok (.getfield 42, 3) := by decide +kernel
theorem qd_G_leave_20 : decode qc_G_leave 20 = .ok (.invokevirtual 64, 3) := by decide +kernel
theorem qd_G_leave_23 : decode qc_G_leave 23 = .ok (.aload_n 0, 1) := by decide +kernel
theorem qd_G_leave_24 : decode qc_G_leave 24 = .ok (.getfield 35, 3) := by decide +kernel
theorem qd_G_leave_27 : decode qc_G_leave 27 = .ok (.iload_n 1, 1) := by decide +kernel
theorem qd_G_leave_28 : decode qc_G_leave 28 = .ok (.aaload, 1) := by decide +kernel
theorem qd_G_leave_29 : decode qc_G_leave 29 = .ok (.iconst 0, 1) := by decide +kernel
theorem qd_G_leave_30 : decode qc_G_leave 30 = .ok (.putfield 49, 3) := by decide +kernel
theorem qd_G_leave_33 : decode qc_G_leave 33 = .ok (.iconst 1, 1) := by decide +kernel
theorem qd_G_leave_34 : decode qc_G_leave 34 = .ok (.ireturn, 1) := by decide +kernel
theorem qd_G_cut_0 : decode qc_G_cut 0 = .ok (.aload_n 0, 1) := by decide +kernel
theorem qd_G_cut_1 : decode qc_G_cut 1 = .ok (.iload_n 1, 1) := by decide +kernel
theorem qd_G_cut_2 : decode qc_G_cut 2 = .ok (.invokevirtual 45, 3) := by decide +kernel
theorem qd_G_cut_5 : decode qc_G_cut 5 = .ok (.ifCond .eq 26, 3) := by decide +kernel
theorem qd_G_cut_8 : decode qc_G_cut 8 = .ok (.aload_n 0, 1) := by decide +kernel
theorem qd_G_cut_9 : decode qc_G_cut 9 = .ok (.iload_n 2, 1) := by decide +kernel
theorem qd_G_cut_10 : decode qc_G_cut 10 = .ok (.invokevirtual 45, 3) := by decide +kernel
theorem qd_G_cut_13 : decode qc_G_cut 13 = .ok (.ifCond .eq 18, 3) := by decide +kernel
theorem qd_G_cut_16 : decode qc_G_cut 16 = .ok (.iload_n 1, 1) := by decide +kernel
theorem qd_G_cut_17 : decode qc_G_cut 17 = .ok (.iload_n 2, 1) := by decide +kernel
theorem qd_G_cut_18 : decode qc_G_cut 18 = .ok (.if_icmp .eq 13, 3) := by decide +kernel
theorem qd_G_cut_21 : decode qc_G_cut 21 = .ok (.aload_n 0, 1) := by decide +kernel
theorem qd_G_cut_22 : decode qc_G_cut 22 = .ok (.iload_n 1, 1) := by decide +kernel
theorem qd_G_cut_23 : decode qc_G_cut 23 = .ok (.iload_n 2, 1) := by decide +kernel
theorem qd_G_cut_24 : decode qc_G_cut 24 = .ok (.invokevirtual 67, 3) := by decide +kernel
theorem qd_G_cut_27 : decode qc_G_cut 27 = .ok (.iload_n 3, 1) := by decide +kernel
theorem qd_G_cut_28 : decode qc_G_cut 28 = .ok (.if_icmp .ne 5, 3) := by decide +kernel
theorem qd_G_cut_31 : decode qc_G_cut 31 = .ok (.iconst 0, 1) := by decide +kernel
theorem qd_G_cut_32 : decode qc_G_cut 32 = .ok (.ireturn, 1) := by decide +kernel
theorem qd_G_cut_33 : decode qc_G_cut 33 = .ok (.aload_n 0, 1) := by decide +kernel
theorem qd_G_cut_34 : decode qc_G_cut 34 = .ok (.getfield 29, 3) := by decide +kernel
theorem qd_G_cut_37 : decode qc_G_cut 37 = .ok (.iload_n 1, 1) := by decide +kernel
theorem qd_G_cut_38 : decode qc_G_cut 38 = .ok (.dup2, 1) := by decide +kernel
theorem qd_G_cut_39 : decode qc_G_cut 39 = .ok (.iaload, 1) := by decide +kernel
theorem qd_G_cut_40 : decode qc_G_cut 40 = .ok (.iconst 1, 1) := by decide +kernel
theorem qd_G_cut_41 : decode qc_G_cut 41 = .ok (.iload_n 2, 1) := by decide +kernel
theorem qd_G_cut_42 : decode qc_G_cut 42 = .ok (.ishl, 1) := by decide +kernel
theorem qd_G_cut_43 : decode qc_G_cut 43 = .ok (.ixor, 1) := by decide +kernel
theorem qd_G_cut_44 : decode qc_G_cut 44 = .ok (.iastore, 1) := by decide +kernel
theorem qd_G_cut_45 : decode qc_G_cut 45 = .ok (.aload_n 0, 1) := by decide +kernel
theorem qd_G_cut_46 : decode qc_G_cut 46 = .ok (.getfield 29, 3) := by decide +kernel
theorem qd_G_cut_49 : decode qc_G_cut 49 = .ok (.iload_n 2, 1) := by decide +kernel
theorem qd_G_cut_50 : decode qc_G_cut 50 = .ok (.dup2, 1) := by decide +kernel
theorem qd_G_cut_51 : decode qc_G_cut 51 = .ok (.iaload, 1) := by decide +kernel
theorem qd_G_cut_52 : decode qc_G_cut 52 = .ok (.iconst 1, 1) := by decide +kernel
theorem qd_G_cut_53 : decode qc_G_cut 53 = .ok (.iload_n 1, 1) := by decide +kernel
theorem qd_G_cut_54 : decode qc_G_cut 54 = .ok (.ishl, 1) := by decide +kernel
theorem qd_G_cut_55 : decode qc_G_cut 55 = .ok (.ixor, 1) := by decide +kernel
theorem qd_G_cut_56 : decode qc_G_cut 56 = .ok (.iastore, 1) := by decide +kernel
theorem qd_G_cut_57 : decode qc_G_cut 57 = .ok (.iconst 1, 1) := by decide +kernel
theorem qd_G_cut_58 : decode qc_G_cut 58 = .ok (.ireturn, 1) := by decide +kernel
theorem qd_G_areCut_0 : decode qc_G_areCut 0 = .ok (.aload_n 0, 1) := by decide +kernel
theorem qd_G_areCut_1 : decode qc_G_areCut 1 = .ok (.getfield 29, 3) := by decide +kernel
theorem qd_G_areCut_4 : decode qc_G_areCut 4 = .ok (.iload_n 1, 1) := by decide +kernel
theorem qd_G_areCut_5 : decode qc_G_areCut 5 = .ok (.iaload, 1) := by decide +kernel
theorem qd_G_areCut_6 : decode qc_G_areCut 6 = .ok (.iload_n 2, 1) := by decide +kernel
theorem qd_G_areCut_7 : decode qc_G_areCut 7 = .ok (.ishr, 1) := by decide +kernel
theorem qd_G_areCut_8 : decode qc_G_areCut 8 = .ok (.iconst 1, 1) := by decide +kernel
theorem qd_G_areCut_9 : decode qc_G_areCut 9 = .ok (.iand, 1) := by decide +kernel
theorem qd_G_areCut_10 : decode qc_G_areCut 10 = .ok (.iconst 1, 1) := by decide +kernel
theorem qd_G_areCut_11 : decode qc_G_areCut 11 = .ok (.if_icmp .ne 7, 3) := by decide +kernel
theorem qd_G_areCut_14 : decode qc_G_areCut 14 = .ok (.iconst 1, 1) := by decide +kernel
theorem qd_G_areCut_15 : decode qc_G_areCut 15 = .ok (.goto 4, 3) := by decide +kernel
theorem qd_G_areCut_18 : decode qc_G_areCut 18 = .ok (.iconst 0, 1) := by decide +kernel
theorem qd_G_areCut_19 : decode qc_G_areCut 19 = .ok (.ireturn, 1) := by decide +kernel
theorem qd_G_drop_0 : decode qc_G_drop 0 = .ok (.aload_n 0, 1) := by decide +kernel
theorem qd_G_drop_1 : decode qc_G_drop 1 = .ok (.getfield 25, 3) := by decide +kernel
theorem qd_G_drop_4 : decode qc_G_drop 4 = .ok (.iload_n 1, 1) := by decide +kernel
theorem qd_G_drop_5 : decode qc_G_drop 5 = .ok (.invokevirtual 71, 3) := by decide +kernel
theorem qd_G_drop_8 : decode qc_G_drop 8 = .ok (.ireturn, 1) := by decide +kernel
theorem qd_G_swap_0 : decode qc_G_swap 0 = .ok (.aload_n 0, 1) := by decide +kernel
theorem qd_G_swap_1 : decode qc_G_swap 1 = .ok (.getfield 25, 3) := by decide +kernel
theorem qd_G_swap_4 : decode qc_G_swap 4 = .ok (.iload_n 1, 1) := by decide +kernel
theorem qd_G_swap_5 : decode qc_G_swap 5 = .ok (.invokevirtual 74, 3) := by decide +kernel
theorem qd_G_swap_8 : decode qc_G_swap 8 = .ok (.ireturn, 1) := by decide +kernel
theorem qd_G_ticks_0 : decode qc_G_ticks 0 = .ok (.iload_n 1, 1) := by decide +kernel
theorem qd_G_ticks_1 : decode qc_G_ticks 1 = .ok (.ifCond .lt 9, 3) := by decide +kernel
theorem qd_G_ticks_4 : decode qc_G_ticks 4 = .ok (.iload_n 1, 1) := by decide +kernel
theorem qd_G_ticks_5 : decode qc_G_ticks 5 = .ok (.bipush 100, 2) := by decide +kernel
theorem qd_G_ticks_7 : decode qc_G_ticks 7 = .ok (.if_icmp .le 5, 3) := by decide +kernel
theorem qd_G_ticks_10 : decode qc_G_ticks 10 = .ok (.iconst (-1), 1) := by decide +kernel
theorem qd_G_ticks_11 : decode qc_G_ticks 11 = .ok (.ireturn, 1) := by decide +kernel
theorem qd_G_ticks_12 : decode qc_G_ticks 12 = .ok (.iconst 0, 1) := by decide +kernel
theorem qd_G_ticks_13 : decode qc_G_ticks 13 = .ok (.istore_n 2, 1) := by decide +kernel
theorem qd_G_ticks_14 : decode qc_G_ticks 14 = .ok (.iconst 0, 1) := by decide +kernel
theorem qd_G_ticks_15 : decode qc_G_ticks 15 = .ok (.istore_n 3, 1) := by decide +kernel
theorem qd_G_ticks_16 : decode qc_G_ticks 16 = .ok (.iload_n 3, 1) := by decide +kernel
theorem qd_G_ticks_17 : decode qc_G_ticks 17 = .ok (.iload_n 1, 1) := by decide +kernel
theorem qd_G_ticks_18 : decode qc_G_ticks 18 = .ok (.if_icmp .ge 71, 3) := by decide +kernel
theorem qd_G_ticks_21 : decode qc_G_ticks 21 = .ok (.aload_n 0, 1) := by decide +kernel
theorem qd_G_ticks_22 : decode qc_G_ticks 22 = .ok (.dup, 1) := by decide +kernel
theorem qd_G_ticks_23 : decode qc_G_ticks 23 = .ok (.getfield 42, 3) := by decide +kernel
theorem qd_G_ticks_26 : decode qc_G_ticks 26 = .ok (.iconst 1, 1) := by decide +kernel
theorem qd_G_ticks_27 : decode qc_G_ticks 27 = .ok (.iadd, 1) := by decide +kernel
theorem qd_G_ticks_28 : decode qc_G_ticks 28 = .ok (.putfield 42, 3) := by decide +kernel
theorem qd_G_ticks_31 : decode qc_G_ticks 31 = .ok (.iload_n 2, 1) := by decide +kernel
theorem qd_G_ticks_32 : decode qc_G_ticks 32 = .ok (.aload_n 0, 1) := by decide +kernel
theorem qd_G_ticks_33 : decode qc_G_ticks 33 = .ok (.invokevirtual 77, 3) := by decide +kernel
theorem qd_G_ticks_36 : decode qc_G_ticks 36 = .ok (.iadd, 1) := by decide +kernel
theorem qd_G_ticks_37 : decode qc_G_ticks 37 = .ok (.istore_n 2, 1) := by decide +kernel
theorem qd_G_ticks_38 : decode qc_G_ticks 38 = .ok (.iconst 0, 1) := by decide +kernel
theorem qd_G_ticks_39 : decode qc_G_ticks 39 = .ok (.istore 4, 2) := by decide +kernel
theorem qd_G_ticks_41 : decode qc_G_ticks 41 = .ok (.iload 4, 2) := by decide +kernel
theorem qd_G_ticks_43 : decode qc_G_ticks 43 = .ok (.aload_n 0, 1) := by decide +kernel
theorem qd_G_ticks_44 : decode qc_G_ticks 44 = .ok (.getfield 18, 3) := by decide +kernel
theorem qd_G_ticks_47 : decode qc_G_ticks 47 = .ok (.if_icmp .ge 36, 3) := by decide +kernel
theorem qd_G_ticks_50 : decode qc_G_ticks 50 = .ok (.aload_n 0, 1) := by decide +kernel
theorem qd_G_ticks_51 : decode qc_G_ticks 51 = .ok (.getfield 35, 3) := by decide +kernel
theorem qd_G_ticks_54 : decode qc_G_ticks 54 = .ok (.iload 4, 2) := by decide +kernel
theorem qd_G_ticks_56 : decode qc_G_ticks 56 = .ok (.aaload, 1) := by decide +kernel
theorem qd_G_ticks_57 : decode qc_G_ticks 57 = .ok (.getfield 49, 3) := by decide +kernel
theorem qd_G_ticks_60 : decode qc_G_ticks 60 = .ok (.ifCond .eq 17, 3) := by decide +kernel
theorem qd_G_ticks_63 : decode qc_G_ticks 63 = .ok (.aload_n 0, 1) := by decide +kernel
theorem qd_G_ticks_64 : decode qc_G_ticks 64 = .ok (.getfield 35, 3) := by decide +kernel
theorem qd_G_ticks_67 : decode qc_G_ticks 67 = .ok (.iload 4, 2) := by decide +kernel
theorem qd_G_ticks_69 : decode qc_G_ticks 69 = .ok (.aaload, 1) := by decide +kernel
theorem qd_G_ticks_70 : decode qc_G_ticks 70 = .ok (.aload_n 0, 1) := by decide +kernel
theorem qd_G_ticks_71 : decode qc_G_ticks 71 = .ok (.getfield 42, 3) := by decide +kernel
theorem qd_G_ticks_74 : decode qc_G_ticks 74 = .ok (.invokevirtual 81, 3) := by decide +kernel
theorem qd_G_ticks_77 : decode qc_G_ticks 77 = .ok (.iinc 4 1, 3) := by decide +kernel
theorem qd_G_ticks_80 : decode qc_G_ticks 80 = .ok (.goto (-39), 3) := by decide +kernel
theorem qd_G_ticks_83 : decode qc_G_ticks 83 = .ok (.iinc 3 1, 3) := by decide +kernel
theorem qd_G_ticks_86 : decode qc_G_ticks 86 = .ok (.goto (-70), 3) := by decide +kernel
theorem qd_G_ticks_89 : decode qc_G_ticks 89 = .ok (.iload_n 2, 1) := by decide +kernel
theorem qd_G_ticks_90 : decode qc_G_ticks 90 = .ok (.ireturn, 1) := by decide +kernel
theorem qd_G_deliverAll_0 : decode qc_G_deliverAll 0 = .ok (.aload_n 0, 1) := by decide +kernel
theorem qd_G_deliverAll_1 : decode qc_G_deliverAll 1 = .ok (.getfield 25, 3) := by decide +kernel
theorem qd_G_deliverAll_4 : decode qc_G_deliverAll 4 = .ok (.invokevirtual 112, 3) := by decide +kernel
theorem qd_G_deliverAll_7 : decode qc_G_deliverAll 7 = .ok (.istore_n 1, 1) := by decide +kernel
theorem qd_G_deliverAll_8 : decode qc_G_deliverAll 8 = .ok (.iconst 0, 1) := by decide +kernel
theorem qd_G_deliverAll_9 : decode qc_G_deliverAll 9 = .ok (.istore_n 2, 1) := by decide +kernel
theorem qd_G_deliverAll_10 : decode qc_G_deliverAll 10 = .ok (.iconst 0, 1) := by decide +kernel
theorem qd_G_deliverAll_11 : decode qc_G_deliverAll 11 = .ok (.istore_n 3, 1) := by decide +kernel
theorem qd_G_deliverAll_12 : decode qc_G_deliverAll 12 = .ok (.iload_n 3, 1) := by decide +kernel
theorem qd_G_deliverAll_13 : decode qc_G_deliverAll 13 = .ok (.iload_n 1, 1) := by decide +kernel
theorem qd_G_deliverAll_14 : decode qc_G_deliverAll 14 = .ok (.if_icmp .ge 71, 3) := by decide +kernel
theorem qd_G_deliverAll_17 : decode qc_G_deliverAll 17 = .ok (.aload_n 0, 1) := by decide +kernel
theorem qd_G_deliverAll_18 : decode qc_G_deliverAll 18 = .ok (.getfield 25, 3) := by decide +kernel
theorem qd_G_deliverAll_21 : decode qc_G_deliverAll 21 = .ok (.getfield 115, 3) := by decide +kernel
theorem qd_G_deliverAll_24 : decode qc_G_deliverAll 24 = .ok (.iload_n 3, 1) := by decide +kernel
theorem qd_G_deliverAll_25 : decode qc_G_deliverAll 25 = .ok (.aaload, 1) := by decide +kernel
theorem qd_G_deliverAll_26 : decode qc_G_deliverAll 26 = .ok (.astore 4, 2) := by decide +kernel
theorem qd_G_deliverAll_28 : decode qc_G_deliverAll 28 = .ok (.aload_n 0, 1) := by decide +kernel
theorem qd_G_deliverAll_29 : decode qc_G_deliverAll 29 = .ok (.getfield 35, 3) := by decide +kernel
theorem qd_G_deliverAll_32 : decode qc_G_deliverAll 32 = .ok (.aload 4, 2) := by decide +kernel
theorem qd_G_deliverAll_34 : decode qc_G_deliverAll 34 = .ok (.getfield 118, 3) := by decide +kernel
theorem qd_G_deliverAll_37 : decode qc_G_deliverAll 37 = .ok (.aaload, 1) := by decide +kernel
theorem qd_G_deliverAll_38 : decode qc_G_deliverAll 38 = .ok (.astore 5, 2) := by decide +kernel
theorem qd_G_deliverAll_40 : decode qc_G_deliverAll 40 = .ok (.aload 5, 2) := by decide +kernel
theorem qd_G_deliverAll_42 : decode qc_G_deliverAll 42 = .ok (.getfield 49, 3) := by decide +kernel
theorem qd_G_deliverAll_45 : decode qc_G_deliverAll 45 = .ok (.ifCond .eq 34, 3) := by decide +kernel
theorem qd_G_deliverAll_48 : decode qc_G_deliverAll 48 = .ok (.aload_n 0, 1) := by decide +kernel
theorem qd_G_deliverAll_49 : decode qc_G_deliverAll 49 = .ok (.aload 4, 2) := by decide +kernel
theorem qd_G_deliverAll_51 : decode qc_G_deliverAll 51 = .ok (.getfield 121, 3) := by decide +kernel
theorem qd_G_deliverAll_54 : decode qc_G_deliverAll 54 = .ok (.aload 4, 2) := by decide +kernel
theorem qd_G_deliverAll_56 : decode qc_G_deliverAll 56 = .ok (.getfield 118, 3) := by decide +kernel
theorem qd_G_deliverAll_59 : decode qc_G_deliverAll 59 = .ok (.invokevirtual 67, 3) := by decide +kernel
theorem qd_G_deliverAll_62 : decode qc_G_deliverAll 62 = .ok (.ifCond .ne 17, 3) := by decide +kernel
theorem qd_G_deliverAll_65 : decode qc_G_deliverAll 65 = .ok (.iinc 2 1, 3) := by decide +kernel
theorem qd_G_deliverAll_68 : decode qc_G_deliverAll 68 = .ok (.aload 5, 2) := by decide +kernel
theorem qd_G_deliverAll_70 : decode qc_G_deliverAll 70 = .ok (.aload 4, 2) := by decide +kernel
theorem qd_G_deliverAll_72 : decode qc_G_deliverAll 72 = .ok (.aload_n 0, 1) := by decide +kernel
theorem qd_G_deliverAll_73 : decode qc_G_deliverAll 73 = .ok (.getfield 42, 3) := by decide +kernel
theorem qd_G_deliverAll_76 : decode qc_G_deliverAll 76 = .ok (.invokevirtual 124, 3) := by decide +kernel
theorem qd_G_deliverAll_79 : decode qc_G_deliverAll 79 = .ok (.iinc 3 1, 3) := by decide +kernel
theorem qd_G_deliverAll_82 : decode qc_G_deliverAll 82 = .ok (.goto (-70), 3) := by decide +kernel
theorem qd_G_deliverAll_85 : decode qc_G_deliverAll 85 = .ok (.iload_n 2, 1) := by decide +kernel
theorem qd_G_deliverAll_86 : decode qc_G_deliverAll 86 = .ok (.ireturn, 1) := by decide +kernel
theorem qd_G_now_0 : decode qc_G_now 0 = .ok (.aload_n 0, 1) := by decide +kernel
theorem qd_G_now_1 : decode qc_G_now 1 = .ok (.getfield 42, 3) := by decide +kernel
theorem qd_G_now_4 : decode qc_G_now 4 = .ok (.ireturn, 1) := by decide +kernel
theorem qd_G_flight_0 : decode qc_G_flight 0 = .ok (.aload_n 0, 1) := by decide +kernel
theorem qd_G_flight_1 : decode qc_G_flight 1 = .ok (.getfield 25, 3) := by decide +kernel
theorem qd_G_flight_4 : decode qc_G_flight 4 = .ok (.getfield 84, 3) := by decide +kernel
theorem qd_G_flight_7 : decode qc_G_flight 7 = .ok (.ireturn, 1) := by decide +kernel
theorem qd_G_message_0 : decode qc_G_message 0 = .ok (.iload_n 1, 1) := by decide +kernel
theorem qd_G_message_1 : decode qc_G_message 1 = .ok (.ifCond .lt 14, 3) := by decide +kernel
theorem qd_G_message_4 : decode qc_G_message 4 = .ok (.iload_n 1, 1) := by decide +kernel
theorem qd_G_message_5 : decode qc_G_message 5 = .ok (.aload_n 0, 1) := by decide +kernel
theorem qd_G_message_6 : decode qc_G_message 6 = .ok (.getfield 25, 3) := by decide +kernel
theorem qd_G_message_9 : decode qc_G_message 9 = .ok (.getfield 84, 3) := by decide +kernel
theorem qd_G_message_12 : decode qc_G_message 12 = .ok (.if_icmp .lt 5, 3) := by decide +kernel
theorem qd_G_message_15 : decode qc_G_message 15 = .ok (.iconst 0, 1) := by decide +kernel
theorem qd_G_message_16 : decode qc_G_message 16 = .ok (.ireturn, 1) := by decide +kernel
theorem qd_G_message_17 : decode qc_G_message 17 = .ok (.aload_n 0, 1) := by decide +kernel
theorem qd_G_message_18 : decode qc_G_message 18 = .ok (.getfield 25, 3) := by decide +kernel
theorem qd_G_message_21 : decode qc_G_message 21 = .ok (.getfield 87, 3) := by decide +kernel
theorem qd_G_message_24 : decode qc_G_message 24 = .ok (.iload_n 1, 1) := by decide +kernel
theorem qd_G_message_25 : decode qc_G_message 25 = .ok (.aaload, 1) := by decide +kernel
theorem qd_G_message_26 : decode qc_G_message 26 = .ok (.iload_n 2, 1) := by decide +kernel
theorem qd_G_message_27 : decode qc_G_message 27 = .ok (.invokevirtual 91, 3) := by decide +kernel
theorem qd_G_message_30 : decode qc_G_message 30 = .ok (.ireturn, 1) := by decide +kernel
theorem qd_G_view_0 : decode qc_G_view 0 = .ok (.aload_n 0, 1) := by decide +kernel
theorem qd_G_view_1 : decode qc_G_view 1 = .ok (.iload_n 1, 1) := by decide +kernel
theorem qd_G_view_2 : decode qc_G_view 2 = .ok (.invokevirtual 61, 3) := by decide +kernel
theorem qd_G_view_5 : decode qc_G_view 5 = .ok (.ifCond .ne 5, 3) := by decide +kernel
theorem qd_G_view_8 : decode qc_G_view 8 = .ok (.iconst (-1), 1) := by decide +kernel
theorem qd_G_view_9 : decode qc_G_view 9 = .ok (.ireturn, 1) := by decide +kernel
theorem qd_G_view_10 : decode qc_G_view 10 = .ok (.aload_n 0, 1) := by decide +kernel
theorem qd_G_view_11 : decode qc_G_view 11 = .ok (.iload_n 2, 1) := by decide +kernel
theorem qd_G_view_12 : decode qc_G_view 12 = .ok (.invokevirtual 45, 3) := by decide +kernel
theorem qd_G_view_15 : decode qc_G_view 15 = .ok (.ifCond .eq 21, 3) := by decide +kernel
theorem qd_G_view_18 : decode qc_G_view 18 = .ok (.aload_n 0, 1) := by decide +kernel
theorem qd_G_view_19 : decode qc_G_view 19 = .ok (.getfield 35, 3) := by decide +kernel
theorem qd_G_view_22 : decode qc_G_view 22 = .ok (.iload_n 1, 1) := by decide +kernel
theorem qd_G_view_23 : decode qc_G_view 23 = .ok (.aaload, 1) := by decide +kernel
theorem qd_G_view_24 : decode qc_G_view 24 = .ok (.getfield 97, 3) := by decide +kernel
theorem qd_G_view_27 : decode qc_G_view 27 = .ok (.iload_n 2, 1) := by decide +kernel
theorem qd_G_view_28 : decode qc_G_view 28 = .ok (.aaload, 1) := by decide +kernel
theorem qd_G_view_29 : decode qc_G_view 29 = .ok (.iload_n 3, 1) := by decide +kernel
theorem qd_G_view_30 : decode qc_G_view 30 = .ok (.invokevirtual 101, 3) := by decide +kernel
theorem qd_G_view_33 : decode qc_G_view 33 = .ok (.goto 4, 3) := by decide +kernel
theorem qd_G_view_36 : decode qc_G_view 36 = .ok (.iconst 0, 1) := by decide +kernel
theorem qd_G_view_37 : decode qc_G_view 37 = .ok (.ireturn, 1) := by decide +kernel
theorem qd_G_node_0 : decode qc_G_node 0 = .ok (.aload_n 0, 1) := by decide +kernel
theorem qd_G_node_1 : decode qc_G_node 1 = .ok (.iload_n 1, 1) := by decide +kernel
theorem qd_G_node_2 : decode qc_G_node 2 = .ok (.invokevirtual 45, 3) := by decide +kernel
theorem qd_G_node_5 : decode qc_G_node 5 = .ok (.ifCond .eq 13, 3) := by decide +kernel
theorem qd_G_node_8 : decode qc_G_node 8 = .ok (.iload_n 2, 1) := by decide +kernel
theorem qd_G_node_9 : decode qc_G_node 9 = .ok (.ifCond .lt 9, 3) := by decide +kernel
theorem qd_G_node_12 : decode qc_G_node 12 = .ok (.iload_n 2, 1) := by decide +kernel
theorem qd_G_node_13 : decode qc_G_node 13 = .ok (.bipush 9, 2) := by decide +kernel
theorem qd_G_node_15 : decode qc_G_node 15 = .ok (.if_icmp .le 5, 3) := by decide +kernel
theorem qd_G_node_18 : decode qc_G_node 18 = .ok (.iconst (-1), 1) := by decide +kernel
theorem qd_G_node_19 : decode qc_G_node 19 = .ok (.ireturn, 1) := by decide +kernel
theorem qd_G_node_20 : decode qc_G_node 20 = .ok (.aload_n 0, 1) := by decide +kernel
theorem qd_G_node_21 : decode qc_G_node 21 = .ok (.getfield 35, 3) := by decide +kernel
theorem qd_G_node_24 : decode qc_G_node 24 = .ok (.iload_n 1, 1) := by decide +kernel
theorem qd_G_node_25 : decode qc_G_node 25 = .ok (.aaload, 1) := by decide +kernel
theorem qd_G_node_26 : decode qc_G_node 26 = .ok (.getfield 49, 3) := by decide +kernel
theorem qd_G_node_29 : decode qc_G_node 29 = .ok (.ifCond .eq 16, 3) := by decide +kernel
theorem qd_G_node_32 : decode qc_G_node 32 = .ok (.aload_n 0, 1) := by decide +kernel
theorem qd_G_node_33 : decode qc_G_node 33 = .ok (.getfield 35, 3) := by decide +kernel
theorem qd_G_node_36 : decode qc_G_node 36 = .ok (.iload_n 1, 1) := by decide +kernel
theorem qd_G_node_37 : decode qc_G_node 37 = .ok (.aaload, 1) := by decide +kernel
theorem qd_G_node_38 : decode qc_G_node 38 = .ok (.iload_n 2, 1) := by decide +kernel
theorem qd_G_node_39 : decode qc_G_node 39 = .ok (.invokevirtual 104, 3) := by decide +kernel
theorem qd_G_node_42 : decode qc_G_node 42 = .ok (.goto 4, 3) := by decide +kernel
theorem qd_G_node_45 : decode qc_G_node 45 = .ok (.iconst 0, 1) := by decide +kernel
theorem qd_G_node_46 : decode qc_G_node 46 = .ok (.ireturn, 1) := by decide +kernel
theorem qd_G_queued_0 : decode qc_G_queued 0 = .ok (.aload_n 0, 1) := by decide +kernel
theorem qd_G_queued_1 : decode qc_G_queued 1 = .ok (.iload_n 1, 1) := by decide +kernel
theorem qd_G_queued_2 : decode qc_G_queued 2 = .ok (.invokevirtual 61, 3) := by decide +kernel
theorem qd_G_queued_5 : decode qc_G_queued 5 = .ok (.ifCond .eq 28, 3) := by decide +kernel
theorem qd_G_queued_8 : decode qc_G_queued 8 = .ok (.aload_n 0, 1) := by decide +kernel
theorem qd_G_queued_9 : decode qc_G_queued 9 = .ok (.iload_n 2, 1) := by decide +kernel
theorem qd_G_queued_10 : decode qc_G_queued 10 = .ok (.invokevirtual 45, 3) := by decide +kernel
theorem qd_G_queued_13 : decode qc_G_queued 13 = .ok (.ifCond .eq 20, 3) := by decide +kernel
theorem qd_G_queued_16 : decode qc_G_queued 16 = .ok (.aload_n 0, 1) := by decide +kernel
theorem qd_G_queued_17 : decode qc_G_queued 17 = .ok (.getfield 35, 3) := by decide +kernel
theorem qd_G_queued_20 : decode qc_G_queued 20 = .ok (.iload_n 1, 1) := by decide +kernel
theorem qd_G_queued_21 : decode qc_G_queued 21 = .ok (.aaload, 1) := by decide +kernel
theorem qd_G_queued_22 : decode qc_G_queued 22 = .ok (.getfield 97, 3) := by decide +kernel
theorem qd_G_queued_25 : decode qc_G_queued 25 = .ok (.iload_n 2, 1) := by decide +kernel
theorem qd_G_queued_26 : decode qc_G_queued 26 = .ok (.aaload, 1) := by decide +kernel
theorem qd_G_queued_27 : decode qc_G_queued 27 = .ok (.getfield 105, 3) := by decide +kernel
theorem qd_G_queued_30 : decode qc_G_queued 30 = .ok (.goto 4, 3) := by decide +kernel
theorem qd_G_queued_33 : decode qc_G_queued 33 = .ok (.iconst 0, 1) := by decide +kernel
theorem qd_G_queued_34 : decode qc_G_queued 34 = .ok (.ireturn, 1) := by decide +kernel
theorem qd_G_agreed_0 : decode qc_G_agreed 0 = .ok (.iconst 0, 1) := by decide +kernel
theorem qd_G_agreed_1 : decode qc_G_agreed 1 = .ok (.istore_n 1, 1) := by decide +kernel
theorem qd_G_agreed_2 : decode qc_G_agreed 2 = .ok (.iload_n 1, 1) := by decide +kernel
theorem qd_G_agreed_3 : decode qc_G_agreed 3 = .ok (.aload_n 0, 1) := by decide +kernel
theorem qd_G_agreed_4 : decode qc_G_agreed 4 = .ok (.getfield 18, 3) := by decide +kernel
theorem qd_G_agreed_7 : decode qc_G_agreed 7 = .ok (.if_icmp .ge 36, 3) := by decide +kernel
theorem qd_G_agreed_10 : decode qc_G_agreed 10 = .ok (.aload_n 0, 1) := by decide +kernel
theorem qd_G_agreed_11 : decode qc_G_agreed 11 = .ok (.getfield 35, 3) := by decide +kernel
theorem qd_G_agreed_14 : decode qc_G_agreed 14 = .ok (.iload_n 1, 1) := by decide +kernel
theorem qd_G_agreed_15 : decode qc_G_agreed 15 = .ok (.aaload, 1) := by decide +kernel
theorem qd_G_agreed_16 : decode qc_G_agreed 16 = .ok (.getfield 49, 3) := by decide +kernel
theorem qd_G_agreed_19 : decode qc_G_agreed 19 = .ok (.ifCond .eq 18, 3) := by decide +kernel
theorem qd_G_agreed_22 : decode qc_G_agreed 22 = .ok (.aload_n 0, 1) := by decide +kernel
theorem qd_G_agreed_23 : decode qc_G_agreed 23 = .ok (.aload_n 0, 1) := by decide +kernel
theorem qd_G_agreed_24 : decode qc_G_agreed 24 = .ok (.getfield 35, 3) := by decide +kernel
theorem qd_G_agreed_27 : decode qc_G_agreed 27 = .ok (.iload_n 1, 1) := by decide +kernel
theorem qd_G_agreed_28 : decode qc_G_agreed 28 = .ok (.aaload, 1) := by decide +kernel
theorem qd_G_agreed_29 : decode qc_G_agreed 29 = .ok (.invokevirtual 108, 3) := by decide +kernel
theorem qd_G_agreed_32 : decode qc_G_agreed 32 = .ok (.ifCond .ne 5, 3) := by decide +kernel
theorem qd_G_agreed_35 : decode qc_G_agreed 35 = .ok (.iconst 0, 1) := by decide +kernel
theorem qd_G_agreed_36 : decode qc_G_agreed 36 = .ok (.ireturn, 1) := by decide +kernel
theorem qd_G_agreed_37 : decode qc_G_agreed 37 = .ok (.iinc 1 1, 3) := by decide +kernel
theorem qd_G_agreed_40 : decode qc_G_agreed 40 = .ok (.goto (-38), 3) := by decide +kernel
theorem qd_G_agreed_43 : decode qc_G_agreed 43 = .ok (.iconst 1, 1) := by decide +kernel
theorem qd_G_agreed_44 : decode qc_G_agreed 44 = .ok (.ireturn, 1) := by decide +kernel
theorem qd_G_seesJustTheRunning_0 : decode qc_G_seesJustTheRunning 0 = .ok (.iconst 0, 1) := by decide +kernel
theorem qd_G_seesJustTheRunning_1 : decode qc_G_seesJustTheRunning 1 = .ok (.istore_n 2, 1) := by decide +kernel
theorem qd_G_seesJustTheRunning_2 : decode qc_G_seesJustTheRunning 2 = .ok (.iload_n 2, 1) := by decide +kernel
theorem qd_G_seesJustTheRunning_3 : decode qc_G_seesJustTheRunning 3 = .ok (.aload_n 0, 1) := by decide +kernel
theorem qd_G_seesJustTheRunning_4 : decode qc_G_seesJustTheRunning 4 = .ok (.getfield 18, 3) := by decide +kernel
theorem qd_G_seesJustTheRunning_7 : decode qc_G_seesJustTheRunning 7 = .ok (.if_icmp .ge 76, 3) := by decide +kernel
theorem qd_G_seesJustTheRunning_10 : decode qc_G_seesJustTheRunning 10 = .ok (.aload_n 1, 1) := by decide +kernel
theorem qd_G_seesJustTheRunning_11 : decode qc_G_seesJustTheRunning 11 = .ok (.getfield 97, 3) := by decide +kernel
theorem qd_G_seesJustTheRunning_14 : decode qc_G_seesJustTheRunning 14 = .ok (.iload_n 2, 1) := by decide +kernel
theorem qd_G_seesJustTheRunning_15 : decode qc_G_seesJustTheRunning 15 = .ok (.aaload, 1) := by decide +kernel
theorem qd_G_seesJustTheRunning_16 : decode qc_G_seesJustTheRunning 16 = .ok (.astore_n 3, 1) := by decide +kernel
theorem qd_G_seesJustTheRunning_17 : decode qc_G_seesJustTheRunning 17 = .ok (.aload_n 0, 1) := by decide +kernel
theorem qd_G_seesJustTheRunning_18 : decode qc_G_seesJustTheRunning 18 = .ok (.getfield 35, 3) := by decide +kernel
theorem qd_G_seesJustTheRunning_21 : decode qc_G_seesJustTheRunning 21 = .ok (.iload_n 2, 1) := by decide +kernel
theorem qd_G_seesJustTheRunning_22 : decode qc_G_seesJustTheRunning 22 = .ok (.aaload, 1) := by decide +kernel
theorem qd_G_seesJustTheRunning_23 : decode qc_G_seesJustTheRunning 23 = .ok (.getfield 49, 3) := by decide +kernel
theorem qd_G_seesJustTheRunning_26 : decode qc_G_seesJustTheRunning 26 = .ok (.ifCond .eq 34, 3) := by decide +kernel
theorem qd_G_seesJustTheRunning_29 : decode qc_G_seesJustTheRunning 29 = .ok (.aload_n 3, 1) := by decide +kernel
theorem qd_G_seesJustTheRunning_30 : decode qc_G_seesJustTheRunning 30 = .ok (.getfield 128, 3) := by decide +kernel
theorem qd_G_seesJustTheRunning_33 : decode qc_G_seesJustTheRunning 33 = .ok (.iconst 1, 1) := by decide +kernel
theorem qd_G_seesJustTheRunning_34 : decode qc_G_seesJustTheRunning 34 = .ok (.if_icmp .ne 24, 3) := by decide +kernel
theorem qd_G_seesJustTheRunning_37 : decode qc_G_seesJustTheRunning 37 = .ok (.aload_n 3, 1) := by decide +kernel
theorem qd_G_seesJustTheRunning_38 : decode qc_G_seesJustTheRunning 38 = .ok (.getfield 131, 3) := by decide +kernel
theorem qd_G_seesJustTheRunning_41 : decode qc_G_seesJustTheRunning 41 = .ok (.aload_n 0, 1) := by decide +kernel
theorem qd_G_seesJustTheRunning_42 : decode qc_G_seesJustTheRunning 42 = .ok (.getfield 35, 3) := by decide +kernel
theorem qd_G_seesJustTheRunning_45 : decode qc_G_seesJustTheRunning 45 = .ok (.iload_n 2, 1) := by decide +kernel
theorem qd_G_seesJustTheRunning_46 : decode qc_G_seesJustTheRunning 46 = .ok (.aaload, 1) := by decide +kernel
theorem qd_G_seesJustTheRunning_47 : decode qc_G_seesJustTheRunning 47 = .ok (.getfield 97, 3) := by decide +kernel
theorem qd_G_seesJustTheRunning_50 : decode qc_G_seesJustTheRunning 50 = .ok (.iload_n 2, 1) := by decide +kernel
theorem qd_G_seesJustTheRunning_51 : decode qc_G_seesJustTheRunning 51 = .ok (.aaload, 1) := by decide +kernel
theorem qd_G_seesJustTheRunning_52 : decode qc_G_seesJustTheRunning 52 = .ok (.getfield 131, 3) := by decide +kernel
theorem qd_G_seesJustTheRunning_55 : decode qc_G_seesJustTheRunning 55 = .ok (.if_icmp .eq 22, 3) := by decide +kernel
theorem qd_G_seesJustTheRunning_58 : decode qc_G_seesJustTheRunning 58 = .ok (.iconst 0, 1) := by decide +kernel
theorem qd_G_seesJustTheRunning_59 : decode qc_G_seesJustTheRunning 59 = .ok (.ireturn, 1) := by decide +kernel
theorem qd_G_seesJustTheRunning_60 : decode qc_G_seesJustTheRunning 60 = .ok (.aload_n 3, 1) := by decide +kernel
theorem qd_G_seesJustTheRunning_61 : decode qc_G_seesJustTheRunning 61 = .ok (.getfield 128, 3) := by decide +kernel
theorem qd_G_seesJustTheRunning_64 : decode qc_G_seesJustTheRunning 64 = .ok (.ifCond .eq 13, 3) := by decide +kernel
theorem qd_G_seesJustTheRunning_67 : decode qc_G_seesJustTheRunning 67 = .ok (.aload_n 3, 1) := by decide +kernel
theorem qd_G_seesJustTheRunning_68 : decode qc_G_seesJustTheRunning 68 = .ok (.getfield 128, 3) := by decide +kernel
theorem qd_G_seesJustTheRunning_71 : decode qc_G_seesJustTheRunning 71 = .ok (.iconst 3, 1) := by decide +kernel
theorem qd_G_seesJustTheRunning_72 : decode qc_G_seesJustTheRunning 72 = .ok (.if_icmp .eq 5, 3) := by decide +kernel
theorem qd_G_seesJustTheRunning_75 : decode qc_G_seesJustTheRunning 75 = .ok (.iconst 0, 1) := by decide +kernel
theorem qd_G_seesJustTheRunning_76 : decode qc_G_seesJustTheRunning 76 = .ok (.ireturn, 1) := by decide +kernel
theorem qd_G_seesJustTheRunning_77 : decode qc_G_seesJustTheRunning 77 = .ok (.iinc 2 1, 3) := by decide +kernel
theorem qd_G_seesJustTheRunning_80 : decode qc_G_seesJustTheRunning 80 = .ok (.goto (-78), 3) := by decide +kernel
theorem qd_G_seesJustTheRunning_83 : decode qc_G_seesJustTheRunning 83 = .ok (.iconst 1, 1) := by decide +kernel
theorem qd_G_seesJustTheRunning_84 : decode qc_G_seesJustTheRunning 84 = .ok (.ireturn, 1) := by decide +kernel
end
section
/-! decode rows (written by gen/names.py) -/
theorem qd_Z_init_0 : decode qc_Z_init 0 = .ok (.aload_n 0, 1) := by decide +kernel
theorem qd_Z_init_1 : decode qc_Z_init 1 = .ok (.invokespecial 1, 3) := by decide +kernel
theorem qd_Z_init_4 : decode qc_Z_init 4 = .ok (.aload_n 0, 1) := by decide +kernel
theorem qd_Z_init_5 : decode qc_Z_init 5 = .ok (.sipush 1920, 3) := by decide +kernel
theorem qd_Z_init_8 : decode qc_Z_init 8 = .ok (.newarray .int, 2) := by decide +kernel
theorem qd_Z_init_10 : decode qc_Z_init 10 = .ok (.putfield 7, 3) := by decide +kernel
theorem qd_Z_init_13 : decode qc_Z_init 13 = .ok (.aload_n 0, 1) := by decide +kernel
theorem qd_Z_init_14 : decode qc_Z_init 14 = .ok (.bipush 32, 2) := by decide +kernel
theorem qd_Z_init_16 : decode qc_Z_init 16 = .ok (.newarray .int, 2) := by decide +kernel
theorem qd_Z_init_18 : decode qc_Z_init 18 = .ok (.putfield 13, 3) := by decide +kernel
theorem qd_Z_init_21 : decode qc_Z_init 21 = .ok (.aload_n 0, 1) := by decide +kernel
theorem qd_Z_init_22 : decode qc_Z_init 22 = .ok (.bipush 64, 2) := by decide +kernel
theorem qd_Z_init_24 : decode qc_Z_init 24 = .ok (.newarray .boolean, 2) := by decide +kernel
theorem qd_Z_init_26 : decode qc_Z_init 26 = .ok (.putfield 16, 3) := by decide +kernel
theorem qd_Z_init_29 : decode qc_Z_init 29 = .ok (.aload_n 0, 1) := by decide +kernel
theorem qd_Z_init_30 : decode qc_Z_init 30 = .ok (.bipush 8, 2) := by decide +kernel
theorem qd_Z_init_32 : decode qc_Z_init 32 = .ok (.newarray .boolean, 2) := by decide +kernel
theorem qd_Z_init_34 : decode qc_Z_init 34 = .ok (.putfield 20, 3) := by decide +kernel
theorem qd_Z_init_37 : decode qc_Z_init 37 = .ok (.aload_n 0, 1) := by decide +kernel
theorem qd_Z_init_38 : decode qc_Z_init 38 = .ok (.bipush 8, 2) := by decide +kernel
theorem qd_Z_init_40 : decode qc_Z_init 40 = .ok (.newarray .int, 2) := by decide +kernel
theorem qd_Z_init_42 : decode qc_Z_init 42 = .ok (.putfield 23, 3) := by decide +kernel
theorem qd_Z_init_45 : decode qc_Z_init 45 = .ok (.aload_n 0, 1) := by decide +kernel
theorem qd_Z_init_46 : decode qc_Z_init 46 = .ok (.bipush 8, 2) := by decide +kernel
theorem qd_Z_init_48 : decode qc_Z_init 48 = .ok (.newarray .int, 2) := by decide +kernel
theorem qd_Z_init_50 : decode qc_Z_init 50 = .ok (.putfield 26, 3) := by decide +kernel
theorem qd_Z_init_53 : decode qc_Z_init 53 = .ok (.aload_n 0, 1) := by decide +kernel
theorem qd_Z_init_54 : decode qc_Z_init 54 = .ok (.bipush 64, 2) := by decide +kernel
theorem qd_Z_init_56 : decode qc_Z_init 56 = .ok (.newarray .int, 2) := by decide +kernel
theorem qd_Z_init_58 : decode qc_Z_init 58 = .ok (.putfield 29, 3) := by decide +kernel
theorem qd_Z_init_61 : decode qc_Z_init 61 = .ok (.aload_n 0, 1) := by decide +kernel
theorem qd_Z_init_62 : decode qc_Z_init 62 = .ok (.bipush 64, 2) := by decide +kernel
theorem qd_Z_init_64 : decode qc_Z_init 64 = .ok (.newarray .int, 2) := by decide +kernel
theorem qd_Z_init_66 : decode qc_Z_init 66 = .ok (.putfield 32, 3) := by decide +kernel
theorem qd_Z_init_69 : decode qc_Z_init 69 = .ok (.aload_n 0, 1) := by decide +kernel
theorem qd_Z_init_70 : decode qc_Z_init 70 = .ok (.bipush 64, 2) := by decide +kernel
theorem qd_Z_init_72 : decode qc_Z_init 72 = .ok (.newarray .int, 2) := by decide +kernel
theorem qd_Z_init_74 : decode qc_Z_init 74 = .ok (.putfield 35, 3) := by decide +kernel
theorem qd_Z_init_77 : decode qc_Z_init 77 = .ok (.aload_n 0, 1) := by decide +kernel
theorem qd_Z_init_78 : decode qc_Z_init 78 = .ok (.bipush 64, 2) := by decide +kernel
theorem qd_Z_init_80 : decode qc_Z_init 80 = .ok (.newarray .int, 2) := by decide +kernel
theorem qd_Z_init_82 : decode qc_Z_init 82 = .ok (.putfield 38, 3) := by decide +kernel
theorem qd_Z_init_85 : decode qc_Z_init 85 = .ok (.aload_n 0, 1) := by decide +kernel
theorem qd_Z_init_86 : decode qc_Z_init 86 = .ok (.bipush 64, 2) := by decide +kernel
theorem qd_Z_init_88 : decode qc_Z_init 88 = .ok (.newarray .int, 2) := by decide +kernel
theorem qd_Z_init_90 : decode qc_Z_init 90 = .ok (.putfield 41, 3) := by decide +kernel
theorem qd_Z_init_93 : decode qc_Z_init 93 = .ok (.aload_n 0, 1) := by decide +kernel
theorem qd_Z_init_94 : decode qc_Z_init 94 = .ok (.bipush 64, 2) := by decide +kernel
theorem qd_Z_init_96 : decode qc_Z_init 96 = .ok (.newarray .int, 2) := by decide +kernel
theorem qd_Z_init_98 : decode qc_Z_init 98 = .ok (.putfield 44, 3) := by decide +kernel
theorem qd_Z_init_101 : decode qc_Z_init 101 = .ok (.aload_n 0, 1) := by decide +kernel
theorem qd_Z_init_102 : decode qc_Z_init 102 = .ok (.bipush 64, 2) := by decide +kernel
theorem qd_Z_init_104 : decode qc_Z_init 104 = .ok (.newarray .int, 2) := by decide +kernel
theorem qd_Z_init_106 : decode qc_Z_init 106 = .ok (.putfield 47, 3) := by decide +kernel
theorem qd_Z_init_109 : decode qc_Z_init 109 = .ok (.aload_n 0, 1) := by decide +kernel
theorem qd_Z_init_110 : decode qc_Z_init 110 = .ok (.bipush 8, 2) := by decide +kernel
theorem qd_Z_init_112 : decode qc_Z_init 112 = .ok (.newarray .int, 2) := by decide +kernel
theorem qd_Z_init_114 : decode qc_Z_init 114 = .ok (.putfield 50, 3) := by decide +kernel
theorem qd_Z_init_117 : decode qc_Z_init 117 = .ok (.aload_n 0, 1) := by decide +kernel
theorem qd_Z_init_118 : decode qc_Z_init 118 = .ok (.sipush 128, 3) := by decide +kernel
theorem qd_Z_init_121 : decode qc_Z_init 121 = .ok (.newarray .int, 2) := by decide +kernel
theorem qd_Z_init_123 : decode qc_Z_init 123 = .ok (.putfield 53, 3) := by decide +kernel
theorem qd_Z_init_126 : decode qc_Z_init 126 = .ok (.aload_n 0, 1) := by decide +kernel
theorem qd_Z_init_127 : decode qc_Z_init 127 = .ok (.bipush 8, 2) := by decide +kernel
theorem qd_Z_init_129 : decode qc_Z_init 129 = .ok (.newarray .boolean, 2) := by decide +kernel
theorem qd_Z_init_131 : decode qc_Z_init 131 = .ok (.putfield 56, 3) := by decide +kernel
theorem qd_Z_init_134 : decode qc_Z_init 134 = .ok (.aload_n 0, 1) := by decide +kernel
theorem qd_Z_init_135 : decode qc_Z_init 135 = .ok (.bipush 8, 2) := by decide +kernel
theorem qd_Z_init_137 : decode qc_Z_init 137 = .ok (.newarray .int, 2) := by decide +kernel
theorem qd_Z_init_139 : decode qc_Z_init 139 = .ok (.putfield 59, 3) := by decide +kernel
theorem qd_Z_init_142 : decode qc_Z_init 142 = .ok (.aload_n 0, 1) := by decide +kernel
theorem qd_Z_init_143 : decode qc_Z_init 143 = .ok (.bipush 8, 2) := by decide +kernel
theorem qd_Z_init_145 : decode qc_Z_init 145 = .ok (.newarray .int, 2) := by decide +kernel
theorem qd_Z_init_147 : decode qc_Z_init 147 = .ok (.putfield 62, 3) := by decide +kernel
theorem qd_Z_init_150 : decode qc_Z_init 150 = .ok (.aload_n 0, 1) := by decide +kernel
theorem qd_Z_init_151 : decode qc_Z_init 151 = .ok (.bipush 8, 2) := by decide +kernel
theorem qd_Z_init_153 : decode qc_Z_init 153 = .ok (.newarray .boolean, 2) := by decide +kernel
theorem qd_Z_init_155 : decode qc_Z_init 155 = .ok (.putfield 65, 3) := by decide +kernel
theorem qd_Z_init_158 : decode qc_Z_init 158 = .ok (.aload_n 0, 1) := by decide +kernel
theorem qd_Z_init_159 : decode qc_Z_init 159 = .ok (.bipush 8, 2) := by decide +kernel
theorem qd_Z_init_161 : decode qc_Z_init 161 = .ok (.newarray .int, 2) := by decide +kernel
theorem qd_Z_init_163 : decode qc_Z_init 163 = .ok (.putfield 68, 3) := by decide +kernel
theorem qd_Z_init_166 : decode qc_Z_init 166 = .ok (.aload_n 0, 1) := by decide +kernel
theorem qd_Z_init_167 : decode qc_Z_init 167 = .ok (.bipush 8, 2) := by decide +kernel
theorem qd_Z_init_169 : decode qc_Z_init 169 = .ok (.newarray .int, 2) := by decide +kernel
theorem qd_Z_init_171 : decode qc_Z_init 171 = .ok (.putfield 71, 3) := by decide +kernel
theorem qd_Z_init_174 : decode qc_Z_init 174 = .ok (.aload_n 0, 1) := by decide +kernel
theorem qd_Z_init_175 : decode qc_Z_init 175 = .ok (.bipush 8, 2) := by decide +kernel
theorem qd_Z_init_177 : decode qc_Z_init 177 = .ok (.newarray .int, 2) := by decide +kernel
theorem qd_Z_init_179 : decode qc_Z_init 179 = .ok (.putfield 74, 3) := by decide +kernel
theorem qd_Z_init_182 : decode qc_Z_init 182 = .ok (.aload_n 0, 1) := by decide +kernel
theorem qd_Z_init_183 : decode qc_Z_init 183 = .ok (.bipush 8, 2) := by decide +kernel
theorem qd_Z_init_185 : decode qc_Z_init 185 = .ok (.newarray .int, 2) := by decide +kernel
theorem qd_Z_init_187 : decode qc_Z_init 187 = .ok (.putfield 77, 3) := by decide +kernel
theorem qd_Z_init_190 : decode qc_Z_init 190 = .ok (.aload_n 0, 1) := by decide +kernel
theorem qd_Z_init_191 : decode qc_Z_init 191 = .ok (.bipush 8, 2) := by decide +kernel
theorem qd_Z_init_193 : decode qc_Z_init 193 = .ok (.newarray .int, 2) := by decide +kernel
theorem qd_Z_init_195 : decode qc_Z_init 195 = .ok (.putfield 80, 3) := by decide +kernel
theorem qd_Z_init_198 : decode qc_Z_init 198 = .ok (.aload_n 0, 1) := by decide +kernel
theorem qd_Z_init_199 : decode qc_Z_init 199 = .ok (.bipush 8, 2) := by decide +kernel
theorem qd_Z_init_201 : decode qc_Z_init 201 = .ok (.newarray .int, 2) := by decide +kernel
theorem qd_Z_init_203 : decode qc_Z_init 203 = .ok (.putfield 83, 3) := by decide +kernel
theorem qd_Z_init_206 : decode qc_Z_init 206 = .ok (.aload_n 0, 1) := by decide +kernel
theorem qd_Z_init_207 : decode qc_Z_init 207 = .ok (.iload_n 1, 1) := by decide +kernel
theorem qd_Z_init_208 : decode qc_Z_init 208 = .ok (.iconst 2, 1) := by decide +kernel
theorem qd_Z_init_209 : decode qc_Z_init 209 = .ok (.if_icmp .ge 7, 3) := by decide +kernel
theorem qd_Z_init_212 : decode qc_Z_init 212 = .ok (.iconst 2, 1) := by decide +kernel
theorem qd_Z_init_213 : decode qc_Z_init 213 = .ok (.goto 15, 3) := by decide +kernel
theorem qd_Z_init_216 : decode qc_Z_init 216 = .ok (.iload_n 1, 1) := by decide +kernel
theorem qd_Z_init_217 : decode qc_Z_init 217 = .ok (.bipush 8, 2) := by decide +kernel
theorem qd_Z_init_219 : decode qc_Z_init 219 = .ok (.if_icmp .le 8, 3) := by decide +kernel
theorem qd_Z_init_222 : decode qc_Z_init 222 = .ok (.bipush 8, 2) := by decide +kernel
theorem qd_Z_init_224 : decode qc_Z_init 224 = .ok (.goto 4, 3) := by decide +kernel
theorem qd_Z_init_227 : decode qc_Z_init 227 = .ok (.iload_n 1, 1) := by decide +kernel
theorem qd_Z_init_228 : decode qc_Z_init 228 = .ok (.putfield 86, 3) := by decide +kernel
theorem qd_Z_init_231 : decode qc_Z_init 231 = .ok (.return_, 1) := by decide +kernel
theorem qd_Z_start_0 : decode qc_Z_start 0 = .ok (.aload_n 0, 1) := by decide +kernel
theorem qd_Z_start_1 : decode qc_Z_start 1 = .ok (.iload_n 1, 1) := by decide +kernel
theorem qd_Z_start_2 : decode qc_Z_start 2 = .ok (.invokevirtual 90, 3) := by decide +kernel
theorem qd_Z_start_5 : decode qc_Z_start 5 = .ok (.ifCond .eq 20, 3) := by decide +kernel
theorem qd_Z_start_8 : decode qc_Z_start 8 = .ok (.aload_n 0, 1) := by decide +kernel
theorem qd_Z_start_9 : decode qc_Z_start 9 = .ok (.getfield 20, 3) := by decide +kernel
theorem qd_Z_start_12 : decode qc_Z_start 12 = .ok (.iload_n 1, 1) := by decide +kernel
theorem qd_Z_start_13 : decode qc_Z_start 13 = .ok (.baload, 1) := by decide +kernel
theorem qd_Z_start_14 : decode qc_Z_start 14 = .ok (.ifCond .ne 11, 3) := by decide +kernel
theorem qd_Z_start_17 : decode qc_Z_start 17 = .ok (.aload_n 0, 1) := by decide +kernel
theorem qd_Z_start_18 : decode qc_Z_start 18 = .ok (.iload_n 2, 1) := by decide +kernel
theorem qd_Z_start_19 : decode qc_Z_start 19 = .ok (.invokevirtual 90, 3) := by decide +kernel
theorem qd_Z_start_22 : decode qc_Z_start 22 = .ok (.ifCond .ne 5, 3) := by decide +kernel
theorem qd_Z_start_25 : decode qc_Z_start 25 = .ok (.iconst 0, 1) := by decide +kernel
theorem qd_Z_start_26 : decode qc_Z_start 26 = .ok (.ireturn, 1) := by decide +kernel
theorem qd_Z_start_27 : decode qc_Z_start 27 = .ok (.iconst 0, 1) := by decide +kernel
theorem qd_Z_start_28 : decode qc_Z_start 28 = .ok (.istore_n 3, 1) := by decide +kernel
theorem qd_Z_start_29 : decode qc_Z_start 29 = .ok (.iload_n 3, 1) := by decide +kernel
theorem qd_Z_start_30 : decode qc_Z_start 30 = .ok (.bipush 8, 2) := by decide +kernel
theorem qd_Z_start_32 : decode qc_Z_start 32 = .ok (.if_icmp .ge 69, 3) := by decide +kernel
theorem qd_Z_start_35 : decode qc_Z_start 35 = .ok (.aload_n 0, 1) := by decide +kernel
theorem qd_Z_start_36 : decode qc_Z_start 36 = .ok (.getfield 29, 3) := by decide +kernel
theorem qd_Z_start_39 : decode qc_Z_start 39 = .ok (.bipush 8, 2) := by decide +kernel
theorem qd_Z_start_41 : decode qc_Z_start 41 = .ok (.iload_n 1, 1) := by decide +kernel
theorem qd_Z_start_42 : decode qc_Z_start 42 = .ok (.imul, 1) := by decide +kernel
theorem qd_Z_start_43 : decode qc_Z_start 43 = .ok (.iload_n 3, 1) := by decide +kernel
theorem qd_Z_start_44 : decode qc_Z_start 44 = .ok (.iadd, 1) := by decide +kernel
theorem qd_Z_start_45 : decode qc_Z_start 45 = .ok (.iconst 0, 1) := by decide +kernel
theorem qd_Z_start_46 : decode qc_Z_start 46 = .ok (.iastore, 1) := by decide +kernel
theorem qd_Z_start_47 : decode qc_Z_start 47 = .ok (.aload_n 0, 1) := by decide +kernel
theorem qd_Z_start_48 : decode qc_Z_start 48 = .ok (.getfield 32, 3) := by decide +kernel
theorem qd_Z_start_51 : decode qc_Z_start 51 = .ok (.bipush 8, 2) := by decide +kernel
theorem qd_Z_start_53 : decode qc_Z_start 53 = .ok (.iload_n 1, 1) := by decide +kernel
theorem qd_Z_start_54 : decode qc_Z_start 54 = .ok (.imul, 1) := by decide +kernel
theorem qd_Z_start_55 : decode qc_Z_start 55 = .ok (.iload_n 3, 1) := by decide +kernel
theorem qd_Z_start_56 : decode qc_Z_start 56 = .ok (.iadd, 1) := by decide +kernel
theorem qd_Z_start_57 : decode qc_Z_start 57 = .ok (.iconst 0, 1) := by decide +kernel
theorem qd_Z_start_58 : decode qc_Z_start 58 = .ok (.iastore, 1) := by decide +kernel
theorem qd_Z_start_59 : decode qc_Z_start 59 = .ok (.aload_n 0, 1) := by decide +kernel
theorem qd_Z_start_60 : decode qc_Z_start 60 = .ok (.getfield 35, 3) := by decide +kernel
theorem qd_Z_start_63 : decode qc_Z_start 63 = .ok (.bipush 8, 2) := by decide +kernel
theorem qd_Z_start_65 : decode qc_Z_start 65 = .ok (.iload_n 1, 1) := by decide +kernel
theorem qd_Z_start_66 : decode qc_Z_start 66 = .ok (.imul, 1) := by decide +kernel
theorem qd_Z_start_67 : decode qc_Z_start 67 = .ok (.iload_n 3, 1) := by decide +kernel
theorem qd_Z_start_68 : decode qc_Z_start 68 = .ok (.iadd, 1) := by decide +kernel
theorem qd_Z_start_69 : decode qc_Z_start 69 = .ok (.iconst 0, 1) := by decide +kernel
theorem qd_Z_start_70 : decode qc_Z_start 70 = .ok (.iastore, 1) := by decide +kernel
theorem qd_Z_start_71 : decode qc_Z_start 71 = .ok (.aload_n 0, 1) := by decide +kernel
theorem qd_Z_start_72 : decode qc_Z_start 72 = .ok (.getfield 38, 3) := by decide +kernel
theorem qd_Z_start_75 : decode qc_Z_start 75 = .ok (.bipush 8, 2) := by decide +kernel
theorem qd_Z_start_77 : decode qc_Z_start 77 = .ok (.iload_n 1, 1) := by decide +kernel
theorem qd_Z_start_78 : decode qc_Z_start 78 = .ok (.imul, 1) := by decide +kernel
theorem qd_Z_start_79 : decode qc_Z_start 79 = .ok (.iload_n 3, 1) := by decide +kernel
theorem qd_Z_start_80 : decode qc_Z_start 80 = .ok (.iadd, 1) := by decide +kernel
theorem qd_Z_start_81 : decode qc_Z_start 81 = .ok (.iconst 0, 1) := by decide +kernel
theorem qd_Z_start_82 : decode qc_Z_start 82 = .ok (.iastore, 1) := by decide +kernel
theorem qd_Z_start_83 : decode qc_Z_start 83 = .ok (.aload_n 0, 1) := by decide +kernel
theorem qd_Z_start_84 : decode qc_Z_start 84 = .ok (.getfield 41, 3) := by decide +kernel
theorem qd_Z_start_87 : decode qc_Z_start 87 = .ok (.bipush 8, 2) := by decide +kernel
theorem qd_Z_start_89 : decode qc_Z_start 89 = .ok (.iload_n 1, 1) := by decide +kernel
theorem qd_Z_start_90 : decode qc_Z_start 90 = .ok (.imul, 1) := by decide +kernel
theorem qd_Z_start_91 : decode qc_Z_start 91 = .ok (.iload_n 3, 1) := by decide +kernel
theorem qd_Z_start_92 : decode qc_Z_start 92 = .ok (.iadd, 1) := by decide +kernel
theorem qd_Z_start_93 : decode qc_Z_start 93 = .ok (.iconst 0, 1) := by decide +kernel
theorem qd_Z_start_94 : decode qc_Z_start 94 = .ok (.iastore, 1) := by decide +kernel
theorem qd_Z_start_95 : decode qc_Z_start 95 = .ok (.iinc 3 1, 3) := by decide +kernel
theorem qd_Z_start_98 : decode qc_Z_start 98 = .ok (.goto (-69), 3) := by decide +kernel
theorem qd_Z_start_101 : decode qc_Z_start 101 = .ok (.aload_n 0, 1) := by decide +kernel
theorem qd_Z_start_102 : decode qc_Z_start 102 = .ok (.getfield 20, 3) := by decide +kernel
theorem qd_Z_start_105 : decode qc_Z_start 105 = .ok (.iload_n 1, 1) := by decide +kernel
theorem qd_Z_start_106 : decode qc_Z_start 106 = .ok (.iconst 1, 1) := by decide +kernel
theorem qd_Z_start_107 : decode qc_Z_start 107 = .ok (.bastore, 1) := by decide +kernel
theorem qd_Z_start_108 : decode qc_Z_start 108 = .ok (.aload_n 0, 1) := by decide +kernel
theorem qd_Z_start_109 : decode qc_Z_start 109 = .ok (.getfield 23, 3) := by decide +kernel
theorem qd_Z_start_112 : decode qc_Z_start 112 = .ok (.iload_n 1, 1) := by decide +kernel
theorem qd_Z_start_113 : decode qc_Z_start 113 = .ok (.aload_n 0, 1) := by decide +kernel
theorem qd_Z_start_114 : decode qc_Z_start 114 = .ok (.getfield 112, 3) := by decide +kernel
theorem qd_Z_start_117 : decode qc_Z_start 117 = .ok (.iastore, 1) := by decide +kernel
theorem qd_Z_start_118 : decode qc_Z_start 118 = .ok (.aload_n 0, 1) := by decide +kernel
theorem qd_Z_start_119 : decode qc_Z_start 119 = .ok (.getfield 26, 3) := by decide +kernel
theorem qd_Z_start_122 : decode qc_Z_start 122 = .ok (.iload_n 1, 1) := by decide +kernel
theorem qd_Z_start_123 : decode qc_Z_start 123 = .ok (.iconst 0, 1) := by decide +kernel
theorem qd_Z_start_124 : decode qc_Z_start 124 = .ok (.iastore, 1) := by decide +kernel
theorem qd_Z_start_125 : decode qc_Z_start 125 = .ok (.aload_n 0, 1) := by decide +kernel
theorem qd_Z_start_126 : decode qc_Z_start 126 = .ok (.getfield 50, 3) := by decide +kernel
theorem qd_Z_start_129 : decode qc_Z_start 129 = .ok (.iload_n 1, 1) := by decide +kernel
theorem qd_Z_start_130 : decode qc_Z_start 130 = .ok (.iconst 0, 1) := by decide +kernel
theorem qd_Z_start_131 : decode qc_Z_start 131 = .ok (.iastore, 1) := by decide +kernel
theorem qd_Z_start_132 : decode qc_Z_start 132 = .ok (.aload_n 0, 1) := by decide +kernel
theorem qd_Z_start_133 : decode qc_Z_start 133 = .ok (.getfield 56, 3) := by decide +kernel
theorem qd_Z_start_136 : decode qc_Z_start 136 = .ok (.iload_n 1, 1) := by decide +kernel
theorem qd_Z_start_137 : decode qc_Z_start 137 = .ok (.iconst 0, 1) := by decide +kernel
theorem qd_Z_start_138 : decode qc_Z_start 138 = .ok (.bastore, 1) := by decide +kernel
theorem qd_Z_start_139 : decode qc_Z_start 139 = .ok (.aload_n 0, 1) := by decide +kernel
theorem qd_Z_start_140 : decode qc_Z_start 140 = .ok (.getfield 68, 3) := by decide +kernel
theorem qd_Z_start_143 : decode qc_Z_start 143 = .ok (.iload_n 1, 1) := by decide +kernel
theorem qd_Z_start_144 : decode qc_Z_start 144 = .ok (.iconst 0, 1) := by decide +kernel
theorem qd_Z_start_145 : decode qc_Z_start 145 = .ok (.iastore, 1) := by decide +kernel
theorem qd_Z_start_146 : decode qc_Z_start 146 = .ok (.aload_n 0, 1) := by decide +kernel
theorem qd_Z_start_147 : decode qc_Z_start 147 = .ok (.getfield 71, 3) := by decide +kernel
theorem qd_Z_start_150 : decode qc_Z_start 150 = .ok (.iload_n 1, 1) := by decide +kernel
theorem qd_Z_start_151 : decode qc_Z_start 151 = .ok (.iconst 2, 1) := by decide +kernel
theorem qd_Z_start_152 : decode qc_Z_start 152 = .ok (.iastore, 1) := by decide +kernel
theorem qd_Z_start_153 : decode qc_Z_start 153 = .ok (.aload_n 0, 1) := by decide +kernel
theorem qd_Z_start_154 : decode qc_Z_start 154 = .ok (.getfield 80, 3) := by decide +kernel
theorem qd_Z_start_157 : decode qc_Z_start 157 = .ok (.iload_n 1, 1) := by decide +kernel
theorem qd_Z_start_158 : decode qc_Z_start 158 = .ok (.iload_n 1, 1) := by decide +kernel
theorem qd_Z_start_159 : decode qc_Z_start 159 = .ok (.iastore, 1) := by decide +kernel
theorem qd_Z_start_160 : decode qc_Z_start 160 = .ok (.aload_n 0, 1) := by decide +kernel
theorem qd_Z_start_161 : decode qc_Z_start 161 = .ok (.getfield 83, 3) := by decide +kernel
theorem qd_Z_start_164 : decode qc_Z_start 164 = .ok (.iload_n 1, 1) := by decide +kernel
theorem qd_Z_start_165 : decode qc_Z_start 165 = .ok (.iload_n 1, 1) := by decide +kernel
theorem qd_Z_start_166 : decode qc_Z_start 166 = .ok (.iastore, 1) := by decide +kernel
theorem qd_Z_start_167 : decode qc_Z_start 167 = .ok (.aload_n 0, 1) := by decide +kernel
theorem qd_Z_start_168 : decode qc_Z_start 168 = .ok (.iload_n 1, 1) := by decide +kernel
theorem qd_Z_start_169 : decode qc_Z_start 169 = .ok (.iload_n 1, 1) := by decide +kernel
theorem qd_Z_start_170 : decode qc_Z_start 170 = .ok (.iconst 1, 1) := by decide +kernel
theorem qd_Z_start_171 : decode qc_Z_start 171 = .ok (.iconst 0, 1) := by decide +kernel
theorem qd_Z_start_172 : decode qc_Z_start 172 = .ok (.iload_n 1, 1) := by decide +kernel
theorem qd_Z_start_173 : decode qc_Z_start 173 = .ok (.invokevirtual 119, 3) := by decide +kernel
theorem qd_Z_start_176 : decode qc_Z_start 176 = .ok (.iload_n 2, 1) := by decide +kernel
theorem qd_Z_start_177 : decode qc_Z_start 177 = .ok (.iload_n 1, 1) := by decide +kernel
theorem qd_Z_start_178 : decode qc_Z_start 178 = .ok (.if_icmp .eq 14, 3) := by decide +kernel
theorem qd_Z_start_181 : decode qc_Z_start 181 = .ok (.aload_n 0, 1) := by decide +kernel
theorem qd_Z_start_182 : decode qc_Z_start 182 = .ok (.bipush 6, 2) := by decide +kernel
theorem qd_Z_start_184 : decode qc_Z_start 184 = .ok (.iload_n 1, 1) := by decide +kernel
theorem qd_Z_start_185 : decode qc_Z_start 185 = .ok (.iload_n 2, 1) := by decide +kernel
theorem qd_Z_start_186 : decode qc_Z_start 186 = .ok (.iconst 0, 1) := by decide +kernel
theorem qd_Z_start_187 : decode qc_Z_start 187 = .ok (.iconst 0, 1) := by decide +kernel
theorem qd_Z_start_188 : decode qc_Z_start 188 = .ok (.iconst 0, 1) := by decide +kernel
theorem qd_Z_start_189 : decode qc_Z_start 189 = .ok (.invokevirtual 123, 3) := by decide +kernel
theorem qd_Z_start_192 : decode qc_Z_start 192 = .ok (.iconst 1, 1) := by decide +kernel
theorem qd_Z_start_193 : decode qc_Z_start 193 = .ok (.ireturn, 1) := by decide +kernel
theorem qd_Z_isNode_0 : decode qc_Z_isNode 0 = .ok (.iload_n 1, 1) := by decide +kernel
theorem qd_Z_isNode_1 : decode qc_Z_isNode 1 = .ok (.ifCond .lt 15, 3) := by decide +kernel
theorem qd_Z_isNode_4 : decode qc_Z_isNode 4 = .ok (.iload_n 1, 1) := by decide +kernel
theorem qd_Z_isNode_5 : decode qc_Z_isNode 5 = .ok (.aload_n 0, 1) := by decide +kernel
theorem qd_Z_isNode_6 : decode qc_Z_isNode 6 = .ok (.getfield 86, 3) := by decide +kernel
theorem qd_Z_isNode_9 : decode qc_Z_isNode 9 = .ok (.if_icmp .ge 7, 3) := by decide +kernel
theorem qd_Z_isNode_12 : decode qc_Z_isNode 12 = .ok (.iconst 1, 1) := by decide +kernel
theorem qd_Z_isNode_13 : decode qc_Z_isNode 13 = .ok (.goto 4, 3) := by decide +kernel
theorem qd_Z_isNode_16 : decode qc_Z_isNode 16 = .ok (.iconst 0, 1) := by decide +kernel
theorem qd_Z_isNode_17 : decode qc_Z_isNode 17 = .ok (.ireturn, 1) := by decide +kernel
theorem qd_Z_enter_0 : decode qc_Z_enter 0 = .ok (.bipush 8, 2) := by decide +kernel
theorem qd_Z_enter_2 : decode qc_Z_enter 2 = .ok (.iload_n 1, 1) := by decide +kernel
theorem qd_Z_enter_3 : decode qc_Z_enter 3 = .ok (.imul, 1) := by decide +kernel
theorem qd_Z_enter_4 : decode qc_Z_enter 4 = .ok (.iload_n 2, 1) := by decide +kernel
theorem qd_Z_enter_5 : decode qc_Z_enter 5 = .ok (.iadd, 1) := by decide +kernel
theorem qd_Z_enter_6 : decode qc_Z_enter 6 = .ok (.istore 6, 2) := by decide +kernel
theorem qd_Z_enter_8 : decode qc_Z_enter 8 = .ok (.aload_n 0, 1) := by decide +kernel
theorem qd_Z_enter_9 : decode qc_Z_enter 9 = .ok (.getfield 29, 3) := by decide +kernel
theorem qd_Z_enter_12 : decode qc_Z_enter 12 = .ok (.iload 6, 2) := by decide +kernel
theorem qd_Z_enter_14 : decode qc_Z_enter 14 = .ok (.iload_n 3, 1) := by decide +kernel
theorem qd_Z_enter_15 : decode qc_Z_enter 15 = .ok (.iastore, 1) := by decide +kernel
theorem qd_Z_enter_16 : decode qc_Z_enter 16 = .ok (.aload_n 0, 1) := by decide +kernel
theorem qd_Z_enter_17 : decode qc_Z_enter 17 = .ok (.getfield 32, 3) := by decide +kernel
theorem qd_Z_enter_20 : decode qc_Z_enter 20 = .ok (.iload 6, 2) := by decide +kernel
theorem qd_Z_enter_22 : decode qc_Z_enter 22 = .ok (.iload 4, 2) := by decide +kernel
theorem qd_Z_enter_24 : decode qc_Z_enter 24 = .ok (.iastore, 1) := by decide +kernel
theorem qd_Z_enter_25 : decode qc_Z_enter 25 = .ok (.aload_n 0, 1) := by decide +kernel
theorem qd_Z_enter_26 : decode qc_Z_enter 26 = .ok (.getfield 35, 3) := by decide +kernel
theorem qd_Z_enter_29 : decode qc_Z_enter 29 = .ok (.iload 6, 2) := by decide +kernel
theorem qd_Z_enter_31 : decode qc_Z_enter 31 = .ok (.aload_n 0, 1) := by decide +kernel
theorem qd_Z_enter_32 : decode qc_Z_enter 32 = .ok (.getfield 112, 3) := by decide +kernel
theorem qd_Z_enter_35 : decode qc_Z_enter 35 = .ok (.iastore, 1) := by decide +kernel
theorem qd_Z_enter_36 : decode qc_Z_enter 36 = .ok (.aload_n 0, 1) := by decide +kernel
theorem qd_Z_enter_37 : decode qc_Z_enter 37 = .ok (.getfield 38, 3) := by decide +kernel
theorem qd_Z_enter_40 : decode qc_Z_enter 40 = .ok (.iload 6, 2) := by decide +kernel
theorem qd_Z_enter_42 : decode qc_Z_enter 42 = .ok (.iload_n 3, 1) := by decide +kernel
theorem qd_Z_enter_43 : decode qc_Z_enter 43 = .ok (.iconst 2, 1) := by decide +kernel
theorem qd_Z_enter_44 : decode qc_Z_enter 44 = .ok (.if_icmp .ne 10, 3) := by decide +kernel
theorem qd_Z_enter_47 : decode qc_Z_enter 47 = .ok (.iconst 1, 1) := by decide +kernel
theorem qd_Z_enter_48 : decode qc_Z_enter 48 = .ok (.iload 5, 2) := by decide +kernel
theorem qd_Z_enter_50 : decode qc_Z_enter 50 = .ok (.ishl, 1) := by decide +kernel
theorem qd_Z_enter_51 : decode qc_Z_enter 51 = .ok (.goto 4, 3) := by decide +kernel
theorem qd_Z_enter_54 : decode qc_Z_enter 54 = .ok (.iconst 0, 1) := by decide +kernel
theorem qd_Z_enter_55 : decode qc_Z_enter 55 = .ok (.iastore, 1) := by decide +kernel
theorem qd_Z_enter_56 : decode qc_Z_enter 56 = .ok (.aload_n 0, 1) := by decide +kernel
theorem qd_Z_enter_57 : decode qc_Z_enter 57 = .ok (.iload_n 1, 1) := by decide +kernel
theorem qd_Z_enter_58 : decode qc_Z_enter 58 = .ok (.iload_n 2, 1) := by decide +kernel
theorem qd_Z_enter_59 : decode qc_Z_enter 59 = .ok (.iload_n 3, 1) := by decide +kernel
theorem qd_Z_enter_60 : decode qc_Z_enter 60 = .ok (.iload 4, 2) := by decide +kernel
theorem qd_Z_enter_62 : decode qc_Z_enter 62 = .ok (.invokevirtual 115, 3) := by decide +kernel
theorem qd_Z_enter_65 : decode qc_Z_enter 65 = .ok (.return_, 1) := by decide +kernel
theorem qd_Z_announce_0 : decode qc_Z_announce 0 = .ok (.aload_n 0, 1) := by decide +kernel
theorem qd_Z_announce_1 : decode qc_Z_announce 1 = .ok (.getfield 41, 3) := by decide +kernel
theorem qd_Z_announce_4 : decode qc_Z_announce 4 = .ok (.bipush 8, 2) := by decide +kernel
theorem qd_Z_announce_6 : decode qc_Z_announce 6 = .ok (.iload_n 1, 1) := by decide +kernel
theorem qd_Z_announce_7 : decode qc_Z_announce 7 = .ok (.imul, 1) := by decide +kernel
theorem qd_Z_announce_8 : decode qc_Z_announce 8 = .ok (.iload_n 2, 1) := by decide +kernel
theorem qd_Z_announce_9 : decode qc_Z_announce 9 = .ok (.iadd, 1) := by decide +kernel
theorem qd_Z_announce_10 : decode qc_Z_announce 10 = .ok (.iconst 4, 1) := by decide +kernel
theorem qd_Z_announce_11 : decode qc_Z_announce 11 = .ok (.iastore, 1) := by decide +kernel
theorem qd_Z_announce_12 : decode qc_Z_announce 12 = .ok (.aload_n 0, 1) := by decide +kernel
theorem qd_Z_announce_13 : decode qc_Z_announce 13 = .ok (.getfield 44, 3) := by decide +kernel
theorem qd_Z_announce_16 : decode qc_Z_announce 16 = .ok (.bipush 8, 2) := by decide +kernel
theorem qd_Z_announce_18 : decode qc_Z_announce 18 = .ok (.iload_n 1, 1) := by decide +kernel
theorem qd_Z_announce_19 : decode qc_Z_announce 19 = .ok (.imul, 1) := by decide +kernel
theorem qd_Z_announce_20 : decode qc_Z_announce 20 = .ok (.iload_n 2, 1) := by decide +kernel
theorem qd_Z_announce_21 : decode qc_Z_announce 21 = .ok (.iadd, 1) := by decide +kernel
theorem qd_Z_announce_22 : decode qc_Z_announce 22 = .ok (.iload_n 3, 1) := by decide +kernel
theorem qd_Z_announce_23 : decode qc_Z_announce 23 = .ok (.iastore, 1) := by decide +kernel
theorem qd_Z_announce_24 : decode qc_Z_announce 24 = .ok (.aload_n 0, 1) := by decide +kernel
theorem qd_Z_announce_25 : decode qc_Z_announce 25 = .ok (.getfield 47, 3) := by decide +kernel
theorem qd_Z_announce_28 : decode qc_Z_announce 28 = .ok (.bipush 8, 2) := by decide +kernel
theorem qd_Z_announce_30 : decode qc_Z_announce 30 = .ok (.iload_n 1, 1) := by decide +kernel
theorem qd_Z_announce_31 : decode qc_Z_announce 31 = .ok (.imul, 1) := by decide +kernel
theorem qd_Z_announce_32 : decode qc_Z_announce 32 = .ok (.iload_n 2, 1) := by decide +kernel
theorem qd_Z_announce_33 : decode qc_Z_announce 33 = .ok (.iadd, 1) := by decide +kernel
theorem qd_Z_announce_34 : decode qc_Z_announce 34 = .ok (.iload 4, 2) := by decide +kernel
theorem qd_Z_announce_36 : decode qc_Z_announce 36 = .ok (.iastore, 1) := by decide +kernel
theorem qd_Z_announce_37 : decode qc_Z_announce 37 = .ok (.return_, 1) := by decide +kernel
theorem qd_Z_send_0 : decode qc_Z_send 0 = .ok (.aload_n 0, 1) := by decide +kernel
theorem qd_Z_send_1 : decode qc_Z_send 1 = .ok (.getfield 13, 3) := by decide +kernel
theorem qd_Z_send_4 : decode qc_Z_send 4 = .ok (.iconst 0, 1) := by decide +kernel
theorem qd_Z_send_5 : decode qc_Z_send 5 = .ok (.iload_n 1, 1) := by decide +kernel
theorem qd_Z_send_6 : decode qc_Z_send 6 = .ok (.iastore, 1) := by decide +kernel
theorem qd_Z_send_7 : decode qc_Z_send 7 = .ok (.aload_n 0, 1) := by decide +kernel
theorem qd_Z_send_8 : decode qc_Z_send 8 = .ok (.getfield 13, 3) := by decide +kernel
theorem qd_Z_send_11 : decode qc_Z_send 11 = .ok (.iconst 1, 1) := by decide +kernel
theorem qd_Z_send_12 : decode qc_Z_send 12 = .ok (.iload_n 2, 1) := by decide +kernel
theorem qd_Z_send_13 : decode qc_Z_send 13 = .ok (.iastore, 1) := by decide +kernel
theorem qd_Z_send_14 : decode qc_Z_send 14 = .ok (.aload_n 0, 1) := by decide +kernel
theorem qd_Z_send_15 : decode qc_Z_send 15 = .ok (.getfield 13, 3) := by decide +kernel
theorem qd_Z_send_18 : decode qc_Z_send 18 = .ok (.iconst 2, 1) := by decide +kernel
theorem qd_Z_send_19 : decode qc_Z_send 19 = .ok (.iload_n 3, 1) := by decide +kernel
theorem qd_Z_send_20 : decode qc_Z_send 20 = .ok (.iastore, 1) := by decide +kernel
theorem qd_Z_send_21 : decode qc_Z_send 21 = .ok (.aload_n 0, 1) := by decide +kernel
theorem qd_Z_send_22 : decode qc_Z_send 22 = .ok (.getfield 13, 3) := by decide +kernel
theorem qd_Z_send_25 : decode qc_Z_send 25 = .ok (.iconst 3, 1) := by decide +kernel
theorem qd_Z_send_26 : decode qc_Z_send 26 = .ok (.iload 4, 2) := by decide +kernel
theorem qd_Z_send_28 : decode qc_Z_send 28 = .ok (.iastore, 1) := by decide +kernel
theorem qd_Z_send_29 : decode qc_Z_send 29 = .ok (.aload_n 0, 1) := by decide +kernel
theorem qd_Z_send_30 : decode qc_Z_send 30 = .ok (.getfield 13, 3) := by decide +kernel
theorem qd_Z_send_33 : decode qc_Z_send 33 = .ok (.iconst 4, 1) := by decide +kernel
theorem qd_Z_send_34 : decode qc_Z_send 34 = .ok (.iload 5, 2) := by decide +kernel
theorem qd_Z_send_36 : decode qc_Z_send 36 = .ok (.iastore, 1) := by decide +kernel
theorem qd_Z_send_37 : decode qc_Z_send 37 = .ok (.aload_n 0, 1) := by decide +kernel
theorem qd_Z_send_38 : decode qc_Z_send 38 = .ok (.getfield 13, 3) := by decide +kernel
theorem qd_Z_send_41 : decode qc_Z_send 41 = .ok (.iconst 5, 1) := by decide +kernel
theorem qd_Z_send_42 : decode qc_Z_send 42 = .ok (.iload 6, 2) := by decide +kernel
theorem qd_Z_send_44 : decode qc_Z_send 44 = .ok (.iastore, 1) := by decide +kernel
theorem qd_Z_send_45 : decode qc_Z_send 45 = .ok (.aload_n 0, 1) := by decide +kernel
theorem qd_Z_send_46 : decode qc_Z_send 46 = .ok (.getfield 13, 3) := by decide +kernel
theorem qd_Z_send_49 : decode qc_Z_send 49 = .ok (.bipush 6, 2) := by decide +kernel
theorem qd_Z_send_51 : decode qc_Z_send 51 = .ok (.iconst 0, 1) := by decide +kernel
theorem qd_Z_send_52 : decode qc_Z_send 52 = .ok (.iastore, 1) := by decide +kernel
theorem qd_Z_send_53 : decode qc_Z_send 53 = .ok (.iload_n 1, 1) := by decide +kernel
theorem qd_Z_send_54 : decode qc_Z_send 54 = .ok (.bipush 6, 2) := by decide +kernel
theorem qd_Z_send_56 : decode qc_Z_send 56 = .ok (.if_icmp .ge 11, 3) := by decide +kernel
theorem qd_Z_send_59 : decode qc_Z_send 59 = .ok (.aload_n 0, 1) := by decide +kernel
theorem qd_Z_send_60 : decode qc_Z_send 60 = .ok (.iload_n 2, 1) := by decide +kernel
theorem qd_Z_send_61 : decode qc_Z_send 61 = .ok (.invokevirtual 102, 3) := by decide +kernel
theorem qd_Z_send_64 : decode qc_Z_send 64 = .ok (.goto 8, 3) := by decide +kernel
theorem qd_Z_send_67 : decode qc_Z_send 67 = .ok (.aload_n 0, 1) := by decide +kernel
theorem qd_Z_send_68 : decode qc_Z_send 68 = .ok (.iload_n 2, 1) := by decide +kernel
theorem qd_Z_send_69 : decode qc_Z_send 69 = .ok (.invokevirtual 106, 3) := by decide +kernel
theorem qd_Z_send_72 : decode qc_Z_send 72 = .ok (.aload_n 0, 1) := by decide +kernel
theorem qd_Z_send_73 : decode qc_Z_send 73 = .ok (.getfield 109, 3) := by decide +kernel
theorem qd_Z_send_76 : decode qc_Z_send 76 = .ok (.bipush 60, 2) := by decide +kernel
theorem qd_Z_send_78 : decode qc_Z_send 78 = .ok (.if_icmp .ne 4, 3) := by decide +kernel
theorem qd_Z_send_81 : decode qc_Z_send 81 = .ok (.return_, 1) := by decide +kernel
theorem qd_Z_send_82 : decode qc_Z_send 82 = .ok (.iconst 0, 1) := by decide +kernel
theorem qd_Z_send_83 : decode qc_Z_send 83 = .ok (.istore 7, 2) := by decide +kernel
theorem qd_Z_send_85 : decode qc_Z_send 85 = .ok (.iload 7, 2) := by decide +kernel
theorem qd_Z_send_87 : decode qc_Z_send 87 = .ok (.bipush 32, 2) := by decide +kernel
theorem qd_Z_send_89 : decode qc_Z_send 89 = .ok (.if_icmp .ge 31, 3) := by decide +kernel
theorem qd_Z_send_92 : decode qc_Z_send 92 = .ok (.aload_n 0, 1) := by decide +kernel
theorem qd_Z_send_93 : decode qc_Z_send 93 = .ok (.getfield 7, 3) := by decide +kernel
theorem qd_Z_send_96 : decode qc_Z_send 96 = .ok (.bipush 32, 2) := by decide +kernel
theorem qd_Z_send_98 : decode qc_Z_send 98 = .ok (.aload_n 0, 1) := by decide +kernel
theorem qd_Z_send_99 : decode qc_Z_send 99 = .ok (.getfield 109, 3) := by decide +kernel
theorem qd_Z_send_102 : decode qc_Z_send 102 = .ok (.imul, 1) := by decide +kernel
theorem qd_Z_send_103 : decode qc_Z_send 103 = .ok (.iload 7, 2) := by decide +kernel
theorem qd_Z_send_105 : decode qc_Z_send 105 = .ok (.iadd, 1) := by decide +kernel
theorem qd_Z_send_106 : decode qc_Z_send 106 = .ok (.aload_n 0, 1) := by decide +kernel
theorem qd_Z_send_107 : decode qc_Z_send 107 = .ok (.getfield 13, 3) := by decide +kernel
theorem qd_Z_send_110 : decode qc_Z_send 110 = .ok (.iload 7, 2) := by decide +kernel
theorem qd_Z_send_112 : decode qc_Z_send 112 = .ok (.iaload, 1) := by decide +kernel
theorem qd_Z_send_113 : decode qc_Z_send 113 = .ok (.iastore, 1) := by decide +kernel
theorem qd_Z_send_114 : decode qc_Z_send 114 = .ok (.iinc 7 1, 3) := by decide +kernel
theorem qd_Z_send_117 : decode qc_Z_send 117 = .ok (.goto (-32), 3) := by decide +kernel
theorem qd_Z_send_120 : decode qc_Z_send 120 = .ok (.aload_n 0, 1) := by decide +kernel
theorem qd_Z_send_121 : decode qc_Z_send 121 = .ok (.dup, 1) := by decide +kernel
theorem qd_Z_send_122 : decode qc_Z_send 122 = .ok (.getfield 109, 3) := by decide +kernel
theorem qd_Z_send_125 : decode qc_Z_send 125 = .ok (.iconst 1, 1) := by decide +kernel
theorem qd_Z_send_126 : decode qc_Z_send 126 = .ok (.iadd, 1) := by decide +kernel
theorem qd_Z_send_127 : decode qc_Z_send 127 = .ok (.putfield 109, 3) := by decide +kernel
theorem qd_Z_send_130 : decode qc_Z_send 130 = .ok (.return_, 1) := by decide +kernel
theorem qd_Z_addQueued_0 : decode qc_Z_addQueued 0 = .ok (.iconst 0, 1) := by decide +kernel
theorem qd_Z_addQueued_1 : decode qc_Z_addQueued 1 = .ok (.istore_n 2, 1) := by decide +kernel
theorem qd_Z_addQueued_2 : decode qc_Z_addQueued 2 = .ok (.iload_n 2, 1) := by decide +kernel
theorem qd_Z_addQueued_3 : decode qc_Z_addQueued 3 = .ok (.iconst 3, 1) := by decide +kernel
theorem qd_Z_addQueued_4 : decode qc_Z_addQueued 4 = .ok (.if_icmp .ge 69, 3) := by decide +kernel
theorem qd_Z_addQueued_7 : decode qc_Z_addQueued 7 = .ok (.aload_n 0, 1) := by decide +kernel
theorem qd_Z_addQueued_8 : decode qc_Z_addQueued 8 = .ok (.iload_n 1, 1) := by decide +kernel
theorem qd_Z_addQueued_9 : decode qc_Z_addQueued 9 = .ok (.invokevirtual 94, 3) := by decide +kernel
theorem qd_Z_addQueued_12 : decode qc_Z_addQueued 12 = .ok (.istore_n 3, 1) := by decide +kernel
theorem qd_Z_addQueued_13 : decode qc_Z_addQueued 13 = .ok (.iload_n 3, 1) := by decide +kernel
theorem qd_Z_addQueued_14 : decode qc_Z_addQueued 14 = .ok (.ifCond .lt 53, 3) := by decide +kernel
theorem qd_Z_addQueued_17 : decode qc_Z_addQueued 17 = .ok (.aload_n 0, 1) := by decide +kernel
theorem qd_Z_addQueued_18 : decode qc_Z_addQueued 18 = .ok (.iload_n 3, 1) := by decide +kernel
theorem qd_Z_addQueued_19 : decode qc_Z_addQueued 19 = .ok (.aload_n 0, 1) := by decide +kernel
theorem qd_Z_addQueued_20 : decode qc_Z_addQueued 20 = .ok (.getfield 44, 3) := by decide +kernel
theorem qd_Z_addQueued_23 : decode qc_Z_addQueued 23 = .ok (.bipush 8, 2) := by decide +kernel
theorem qd_Z_addQueued_25 : decode qc_Z_addQueued 25 = .ok (.iload_n 1, 1) := by decide +kernel
theorem qd_Z_addQueued_26 : decode qc_Z_addQueued 26 = .ok (.imul, 1) := by decide +kernel
theorem qd_Z_addQueued_27 : decode qc_Z_addQueued 27 = .ok (.iload_n 3, 1) := by decide +kernel
theorem qd_Z_addQueued_28 : decode qc_Z_addQueued 28 = .ok (.iadd, 1) := by decide +kernel
theorem qd_Z_addQueued_29 : decode qc_Z_addQueued 29 = .ok (.iaload, 1) := by decide +kernel
theorem qd_Z_addQueued_30 : decode qc_Z_addQueued 30 = .ok (.aload_n 0, 1) := by decide +kernel
theorem qd_Z_addQueued_31 : decode qc_Z_addQueued 31 = .ok (.getfield 47, 3) := by decide +kernel
theorem qd_Z_addQueued_34 : decode qc_Z_addQueued 34 = .ok (.bipush 8, 2) := by decide +kernel
theorem qd_Z_addQueued_36 : decode qc_Z_addQueued 36 = .ok (.iload_n 1, 1) := by decide +kernel
theorem qd_Z_addQueued_37 : decode qc_Z_addQueued 37 = .ok (.imul, 1) := by decide +kernel
theorem qd_Z_addQueued_38 : decode qc_Z_addQueued 38 = .ok (.iload_n 3, 1) := by decide +kernel
theorem qd_Z_addQueued_39 : decode qc_Z_addQueued 39 = .ok (.iadd, 1) := by decide +kernel
theorem qd_Z_addQueued_40 : decode qc_Z_addQueued 40 = .ok (.iaload, 1) := by decide +kernel
theorem qd_Z_addQueued_41 : decode qc_Z_addQueued 41 = .ok (.invokevirtual 98, 3) := by decide +kernel
theorem qd_Z_addQueued_44 : decode qc_Z_addQueued 44 = .ok (.aload_n 0, 1) := by decide +kernel
theorem qd_Z_addQueued_45 : decode qc_Z_addQueued 45 = .ok (.getfield 41, 3) := by decide +kernel
theorem qd_Z_addQueued_48 : decode qc_Z_addQueued 48 = .ok (.bipush 8, 2) := by decide +kernel
theorem qd_Z_addQueued_50 : decode qc_Z_addQueued 50 = .ok (.iload_n 1, 1) := by decide +kernel
theorem qd_Z_addQueued_51 : decode qc_Z_addQueued 51 = .ok (.imul, 1) := by decide +kernel
theorem qd_Z_addQueued_52 : decode qc_Z_addQueued 52 = .ok (.iload_n 3, 1) := by decide +kernel
theorem qd_Z_addQueued_53 : decode qc_Z_addQueued 53 = .ok (.iadd, 1) := by decide +kernel
theorem qd_Z_addQueued_54 : decode qc_Z_addQueued 54 = .ok (.aload_n 0, 1) := by decide +kernel
theorem qd_Z_addQueued_55 : decode qc_Z_addQueued 55 = .ok (.getfield 41, 3) := by decide +kernel
theorem qd_Z_addQueued_58 : decode qc_Z_addQueued 58 = .ok (.bipush 8, 2) := by decide +kernel
theorem qd_Z_addQueued_60 : decode qc_Z_addQueued 60 = .ok (.iload_n 1, 1) := by decide +kernel
theorem qd_Z_addQueued_61 : decode qc_Z_addQueued 61 = .ok (.imul, 1) := by decide +kernel
theorem qd_Z_addQueued_62 : decode qc_Z_addQueued 62 = .ok (.iload_n 3, 1) := by decide +kernel
theorem qd_Z_addQueued_63 : decode qc_Z_addQueued 63 = .ok (.iadd, 1) := by decide +kernel
theorem qd_Z_addQueued_64 : decode qc_Z_addQueued 64 = .ok (.iaload, 1) := by decide +kernel
theorem qd_Z_addQueued_65 : decode qc_Z_addQueued 65 = .ok (.ineg, 1) := by decide +kernel
theorem qd_Z_addQueued_66 : decode qc_Z_addQueued 66 = .ok (.iastore, 1) := by decide +kernel
theorem qd_Z_addQueued_67 : decode qc_Z_addQueued 67 = .ok (.iinc 2 1, 3) := by decide +kernel
theorem qd_Z_addQueued_70 : decode qc_Z_addQueued 70 = .ok (.goto (-68), 3) := by decide +kernel
theorem qd_Z_addQueued_73 : decode qc_Z_addQueued 73 = .ok (.iconst 0, 1) := by decide +kernel
theorem qd_Z_addQueued_74 : decode qc_Z_addQueued 74 = .ok (.istore_n 2, 1) := by decide +kernel
theorem qd_Z_addQueued_75 : decode qc_Z_addQueued 75 = .ok (.iload_n 2, 1) := by decide +kernel
theorem qd_Z_addQueued_76 : decode qc_Z_addQueued 76 = .ok (.aload_n 0, 1) := by decide +kernel
theorem qd_Z_addQueued_77 : decode qc_Z_addQueued 77 = .ok (.getfield 86, 3) := by decide +kernel
theorem qd_Z_addQueued_80 : decode qc_Z_addQueued 80 = .ok (.if_icmp .ge 62, 3) := by decide +kernel
theorem qd_Z_addQueued_83 : decode qc_Z_addQueued 83 = .ok (.aload_n 0, 1) := by decide +kernel
theorem qd_Z_addQueued_84 : decode qc_Z_addQueued 84 = .ok (.getfield 41, 3) := by decide +kernel
theorem qd_Z_addQueued_87 : decode qc_Z_addQueued 87 = .ok (.bipush 8, 2) := by decide +kernel
theorem qd_Z_addQueued_89 : decode qc_Z_addQueued 89 = .ok (.iload_n 1, 1) := by decide +kernel
theorem qd_Z_addQueued_90 : decode qc_Z_addQueued 90 = .ok (.imul, 1) := by decide +kernel
theorem qd_Z_addQueued_91 : decode qc_Z_addQueued 91 = .ok (.iload_n 2, 1) := by decide +kernel
theorem qd_Z_addQueued_92 : decode qc_Z_addQueued 92 = .ok (.iadd, 1) := by decide +kernel
theorem qd_Z_addQueued_93 : decode qc_Z_addQueued 93 = .ok (.aload_n 0, 1) := by decide +kernel
theorem qd_Z_addQueued_94 : decode qc_Z_addQueued 94 = .ok (.getfield 41, 3) := by decide +kernel
theorem qd_Z_addQueued_97 : decode qc_Z_addQueued 97 = .ok (.bipush 8, 2) := by decide +kernel
theorem qd_Z_addQueued_99 : decode qc_Z_addQueued 99 = .ok (.iload_n 1, 1) := by decide +kernel
theorem qd_Z_addQueued_100 : decode qc_Z_addQueued 100 = .ok (.imul, 1) := by decide +kernel
theorem qd_Z_addQueued_101 : decode qc_Z_addQueued 101 = .ok (.iload_n 2, 1) := by decide +kernel
theorem qd_Z_addQueued_102 : decode qc_Z_addQueued 102 = .ok (.iadd, 1) := by decide +kernel
theorem qd_Z_addQueued_103 : decode qc_Z_addQueued 103 = .ok (.iaload, 1) := by decide +kernel
theorem qd_Z_addQueued_104 : decode qc_Z_addQueued 104 = .ok (.ifCond .ge 20, 3) := by decide +kernel
theorem qd_Z_addQueued_107 : decode qc_Z_addQueued 107 = .ok (.aload_n 0, 1) := by decide +kernel
theorem qd_Z_addQueued_108 : decode qc_Z_addQueued 108 = .ok (.getfield 41, 3) := by decide +kernel
theorem qd_Z_addQueued_111 : decode qc_Z_addQueued 111 = .ok (.bipush 8, 2) := by decide +kernel
theorem qd_Z_addQueued_113 : decode qc_Z_addQueued 113 = .ok (.iload_n 1, 1) := by decide +kernel
theorem qd_Z_addQueued_114 : decode qc_Z_addQueued 114 = .ok (.imul, 1) := by decide +kernel
theorem qd_Z_addQueued_115 : decode qc_Z_addQueued 115 = .ok (.iload_n 2, 1) := by decide +kernel
theorem qd_Z_addQueued_116 : decode qc_Z_addQueued 116 = .ok (.iadd, 1) := by decide +kernel
theorem qd_Z_addQueued_117 : decode qc_Z_addQueued 117 = .ok (.iaload, 1) := by decide +kernel
theorem qd_Z_addQueued_118 : decode qc_Z_addQueued 118 = .ok (.ineg, 1) := by decide +kernel
theorem qd_Z_addQueued_119 : decode qc_Z_addQueued 119 = .ok (.iconst 1, 1) := by decide +kernel
theorem qd_Z_addQueued_120 : decode qc_Z_addQueued 120 = .ok (.isub, 1) := by decide +kernel
theorem qd_Z_addQueued_121 : decode qc_Z_addQueued 121 = .ok (.goto 14, 3) := by decide +kernel
theorem qd_Z_addQueued_124 : decode qc_Z_addQueued 124 = .ok (.aload_n 0, 1) := by decide +kernel
theorem qd_Z_addQueued_125 : decode qc_Z_addQueued 125 = .ok (.getfield 41, 3) := by decide +kernel
theorem qd_Z_addQueued_128 : decode qc_Z_addQueued 128 = .ok (.bipush 8, 2) := by decide +kernel
theorem qd_Z_addQueued_130 : decode qc_Z_addQueued 130 = .ok (.iload_n 1, 1) := by decide +kernel
theorem qd_Z_addQueued_131 : decode qc_Z_addQueued 131 = .ok (.imul, 1) := by decide +kernel
theorem qd_Z_addQueued_132 : decode qc_Z_addQueued 132 = .ok (.iload_n 2, 1) := by decide +kernel
theorem qd_Z_addQueued_133 : decode qc_Z_addQueued 133 = .ok (.iadd, 1) := by decide +kernel
theorem qd_Z_addQueued_134 : decode qc_Z_addQueued 134 = .ok (.iaload, 1) := by decide +kernel
theorem qd_Z_addQueued_135 : decode qc_Z_addQueued 135 = .ok (.iastore, 1) := by decide +kernel
theorem qd_Z_addQueued_136 : decode qc_Z_addQueued 136 = .ok (.iinc 2 1, 3) := by decide +kernel
theorem qd_Z_addQueued_139 : decode qc_Z_addQueued 139 = .ok (.goto (-64), 3) := by decide +kernel
theorem qd_Z_addQueued_142 : decode qc_Z_addQueued 142 = .ok (.return_, 1) := by decide +kernel
theorem qd_Z_mostQueued_0 : decode qc_Z_mostQueued 0 = .ok (.iconst (-1), 1) := by decide +kernel
theorem qd_Z_mostQueued_1 : decode qc_Z_mostQueued 1 = .ok (.istore_n 2, 1) := by decide +kernel
theorem qd_Z_mostQueued_2 : decode qc_Z_mostQueued 2 = .ok (.iconst 0, 1) := by decide +kernel
theorem qd_Z_mostQueued_3 : decode qc_Z_mostQueued 3 = .ok (.istore_n 3, 1) := by decide +kernel
theorem qd_Z_mostQueued_4 : decode qc_Z_mostQueued 4 = .ok (.iload_n 3, 1) := by decide +kernel
theorem qd_Z_mostQueued_5 : decode qc_Z_mostQueued 5 = .ok (.aload_n 0, 1) := by decide +kernel
theorem qd_Z_mostQueued_6 : decode qc_Z_mostQueued 6 = .ok (.getfield 86, 3) := by decide +kernel
theorem qd_Z_mostQueued_9 : decode qc_Z_mostQueued 9 = .ok (.if_icmp .ge 58, 3) := by decide +kernel
theorem qd_Z_mostQueued_12 : decode qc_Z_mostQueued 12 = .ok (.aload_n 0, 1) := by decide +kernel
theorem qd_Z_mostQueued_13 : decode qc_Z_mostQueued 13 = .ok (.getfield 41, 3) := by decide +kernel
theorem qd_Z_mostQueued_16 : decode qc_Z_mostQueued 16 = .ok (.bipush 8, 2) := by decide +kernel
theorem qd_Z_mostQueued_18 : decode qc_Z_mostQueued 18 = .ok (.iload_n 1, 1) := by decide +kernel
theorem qd_Z_mostQueued_19 : decode qc_Z_mostQueued 19 = .ok (.imul, 1) := by decide +kernel
theorem qd_Z_mostQueued_20 : decode qc_Z_mostQueued 20 = .ok (.iload_n 3, 1) := by decide +kernel
theorem qd_Z_mostQueued_21 : decode qc_Z_mostQueued 21 = .ok (.iadd, 1) := by decide +kernel
theorem qd_Z_mostQueued_22 : decode qc_Z_mostQueued 22 = .ok (.iaload, 1) := by decide +kernel
theorem qd_Z_mostQueued_23 : decode qc_Z_mostQueued 23 = .ok (.ifCond .le 36, 3) := by decide +kernel
theorem qd_Z_mostQueued_26 : decode qc_Z_mostQueued 26 = .ok (.iload_n 2, 1) := by decide +kernel
theorem qd_Z_mostQueued_27 : decode qc_Z_mostQueued 27 = .ok (.ifCond .lt 28, 3) := by decide +kernel
theorem qd_Z_mostQueued_30 : decode qc_Z_mostQueued 30 = .ok (.aload_n 0, 1) := by decide +kernel
theorem qd_Z_mostQueued_31 : decode qc_Z_mostQueued 31 = .ok (.getfield 41, 3) := by decide +kernel
theorem qd_Z_mostQueued_34 : decode qc_Z_mostQueued 34 = .ok (.bipush 8, 2) := by decide +kernel
theorem qd_Z_mostQueued_36 : decode qc_Z_mostQueued 36 = .ok (.iload_n 1, 1) := by decide +kernel
theorem qd_Z_mostQueued_37 : decode qc_Z_mostQueued 37 = .ok (.imul, 1) := by decide +kernel
theorem qd_Z_mostQueued_38 : decode qc_Z_mostQueued 38 = .ok (.iload_n 3, 1) := by decide +kernel
theorem qd_Z_mostQueued_39 : decode qc_Z_mostQueued 39 = .ok (.iadd, 1) := by decide +kernel
theorem qd_Z_mostQueued_40 : decode qc_Z_mostQueued 40 = .ok (.iaload, 1) := by decide +kernel
theorem qd_Z_mostQueued_41 : decode qc_Z_mostQueued 41 = .ok (.aload_n 0, 1) := by decide +kernel
theorem qd_Z_mostQueued_42 : decode qc_Z_mostQueued 42 = .ok (.getfield 41, 3) := by decide +kernel
theorem qd_Z_mostQueued_45 : decode qc_Z_mostQueued 45 = .ok (.bipush 8, 2) := by decide +kernel
theorem qd_Z_mostQueued_47 : decode qc_Z_mostQueued 47 = .ok (.iload_n 1, 1) := by decide +kernel
theorem qd_Z_mostQueued_48 : decode qc_Z_mostQueued 48 = .ok (.imul, 1) := by decide +kernel
theorem qd_Z_mostQueued_49 : decode qc_Z_mostQueued 49 = .ok (.iload_n 2, 1) := by decide +kernel
theorem qd_Z_mostQueued_50 : decode qc_Z_mostQueued 50 = .ok (.iadd, 1) := by decide +kernel
theorem qd_Z_mostQueued_51 : decode qc_Z_mostQueued 51 = .ok (.iaload, 1) := by decide +kernel
theorem qd_Z_mostQueued_52 : decode qc_Z_mostQueued 52 = .ok (.if_icmp .le 7, 3) := by decide +kernel
theorem qd_Z_mostQueued_55 : decode qc_Z_mostQueued 55 = .ok (.iload_n 3, 1) := by decide +kernel
theorem qd_Z_mostQueued_56 : decode qc_Z_mostQueued 56 = .ok (.goto 4, 3) := by decide +kernel
theorem qd_Z_mostQueued_59 : decode qc_Z_mostQueued 59 = .ok (.iload_n 2, 1) := by decide +kernel
theorem qd_Z_mostQueued_60 : decode qc_Z_mostQueued 60 = .ok (.istore_n 2, 1) := by decide +kernel
theorem qd_Z_mostQueued_61 : decode qc_Z_mostQueued 61 = .ok (.iinc 3 1, 3) := by decide +kernel
theorem qd_Z_mostQueued_64 : decode qc_Z_mostQueued 64 = .ok (.goto (-60), 3) := by decide +kernel
theorem qd_Z_mostQueued_67 : decode qc_Z_mostQueued 67 = .ok (.iload_n 2, 1) := by decide +kernel
theorem qd_Z_mostQueued_68 : decode qc_Z_mostQueued 68 = .ok (.ireturn, 1) := by decide +kernel
theorem qd_Z_addNews_0 : decode qc_Z_addNews 0 = .ok (.bipush 7, 2) := by decide +kernel
theorem qd_Z_addNews_2 : decode qc_Z_addNews 2 = .ok (.iconst 3, 1) := by decide +kernel
theorem qd_Z_addNews_3 : decode qc_Z_addNews 3 = .ok (.aload_n 0, 1) := by decide +kernel
theorem qd_Z_addNews_4 : decode qc_Z_addNews 4 = .ok (.getfield 13, 3) := by decide +kernel
theorem qd_Z_addNews_7 : decode qc_Z_addNews 7 = .ok (.bipush 6, 2) := by decide +kernel
theorem qd_Z_addNews_9 : decode qc_Z_addNews 9 = .ok (.iaload, 1) := by decide +kernel
theorem qd_Z_addNews_10 : decode qc_Z_addNews 10 = .ok (.imul, 1) := by decide +kernel
theorem qd_Z_addNews_11 : decode qc_Z_addNews 11 = .ok (.iadd, 1) := by decide +kernel
theorem qd_Z_addNews_12 : decode qc_Z_addNews 12 = .ok (.istore 4, 2) := by decide +kernel
theorem qd_Z_addNews_14 : decode qc_Z_addNews 14 = .ok (.aload_n 0, 1) := by decide +kernel
theorem qd_Z_addNews_15 : decode qc_Z_addNews 15 = .ok (.getfield 13, 3) := by decide +kernel
theorem qd_Z_addNews_18 : decode qc_Z_addNews 18 = .ok (.iload 4, 2) := by decide +kernel
theorem qd_Z_addNews_20 : decode qc_Z_addNews 20 = .ok (.iload_n 1, 1) := by decide +kernel
theorem qd_Z_addNews_21 : decode qc_Z_addNews 21 = .ok (.iastore, 1) := by decide +kernel
theorem qd_Z_addNews_22 : decode qc_Z_addNews 22 = .ok (.aload_n 0, 1) := by decide +kernel
theorem qd_Z_addNews_23 : decode qc_Z_addNews 23 = .ok (.getfield 13, 3) := by decide +kernel
theorem qd_Z_addNews_26 : decode qc_Z_addNews 26 = .ok (.iload 4, 2) := by decide +kernel
theorem qd_Z_addNews_28 : decode qc_Z_addNews 28 = .ok (.iconst 1, 1) := by decide +kernel
theorem qd_Z_addNews_29 : decode qc_Z_addNews 29 = .ok (.iadd, 1) := by decide +kernel
theorem qd_Z_addNews_30 : decode qc_Z_addNews 30 = .ok (.iload_n 2, 1) := by decide +kernel
theorem qd_Z_addNews_31 : decode qc_Z_addNews 31 = .ok (.iastore, 1) := by decide +kernel
theorem qd_Z_addNews_32 : decode qc_Z_addNews 32 = .ok (.aload_n 0, 1) := by decide +kernel
theorem qd_Z_addNews_33 : decode qc_Z_addNews 33 = .ok (.getfield 13, 3) := by decide +kernel
theorem qd_Z_addNews_36 : decode qc_Z_addNews 36 = .ok (.iload 4, 2) := by decide +kernel
theorem qd_Z_addNews_38 : decode qc_Z_addNews 38 = .ok (.iconst 2, 1) := by decide +kernel
theorem qd_Z_addNews_39 : decode qc_Z_addNews 39 = .ok (.iadd, 1) := by decide +kernel
theorem qd_Z_addNews_40 : decode qc_Z_addNews 40 = .ok (.iload_n 3, 1) := by decide +kernel
theorem qd_Z_addNews_41 : decode qc_Z_addNews 41 = .ok (.iastore, 1) := by decide +kernel
theorem qd_Z_addNews_42 : decode qc_Z_addNews 42 = .ok (.aload_n 0, 1) := by decide +kernel
theorem qd_Z_addNews_43 : decode qc_Z_addNews 43 = .ok (.getfield 13, 3) := by decide +kernel
theorem qd_Z_addNews_46 : decode qc_Z_addNews 46 = .ok (.bipush 6, 2) := by decide +kernel
theorem qd_Z_addNews_48 : decode qc_Z_addNews 48 = .ok (.dup2, 1) := by decide +kernel
theorem qd_Z_addNews_49 : decode qc_Z_addNews 49 = .ok (.iaload, 1) := by decide +kernel
theorem qd_Z_addNews_50 : decode qc_Z_addNews 50 = .ok (.iconst 1, 1) := by decide +kernel
theorem qd_Z_addNews_51 : decode qc_Z_addNews 51 = .ok (.iadd, 1) := by decide +kernel
theorem qd_Z_addNews_52 : decode qc_Z_addNews 52 = .ok (.iastore, 1) := by decide +kernel
theorem qd_Z_addNews_53 : decode qc_Z_addNews 53 = .ok (.return_, 1) := by decide +kernel
theorem qd_Z_addTable_0 : decode qc_Z_addTable 0 = .ok (.iconst 0, 1) := by decide +kernel
theorem qd_Z_addTable_1 : decode qc_Z_addTable 1 = .ok (.istore_n 2, 1) := by decide +kernel
theorem qd_Z_addTable_2 : decode qc_Z_addTable 2 = .ok (.iload_n 2, 1) := by decide +kernel
theorem qd_Z_addTable_3 : decode qc_Z_addTable 3 = .ok (.aload_n 0, 1) := by decide +kernel
theorem qd_Z_addTable_4 : decode qc_Z_addTable 4 = .ok (.getfield 86, 3) := by decide +kernel
theorem qd_Z_addTable_7 : decode qc_Z_addTable 7 = .ok (.if_icmp .ge 50, 3) := by decide +kernel
theorem qd_Z_addTable_10 : decode qc_Z_addTable 10 = .ok (.aload_n 0, 1) := by decide +kernel
theorem qd_Z_addTable_11 : decode qc_Z_addTable 11 = .ok (.getfield 29, 3) := by decide +kernel
theorem qd_Z_addTable_14 : decode qc_Z_addTable 14 = .ok (.bipush 8, 2) := by decide +kernel
theorem qd_Z_addTable_16 : decode qc_Z_addTable 16 = .ok (.iload_n 1, 1) := by decide +kernel
theorem qd_Z_addTable_17 : decode qc_Z_addTable 17 = .ok (.imul, 1) := by decide +kernel
theorem qd_Z_addTable_18 : decode qc_Z_addTable 18 = .ok (.iload_n 2, 1) := by decide +kernel
theorem qd_Z_addTable_19 : decode qc_Z_addTable 19 = .ok (.iadd, 1) := by decide +kernel
theorem qd_Z_addTable_20 : decode qc_Z_addTable 20 = .ok (.iaload, 1) := by decide +kernel
theorem qd_Z_addTable_21 : decode qc_Z_addTable 21 = .ok (.ifCond .le 30, 3) := by decide +kernel
theorem qd_Z_addTable_24 : decode qc_Z_addTable 24 = .ok (.aload_n 0, 1) := by decide +kernel
theorem qd_Z_addTable_25 : decode qc_Z_addTable 25 = .ok (.iload_n 2, 1) := by decide +kernel
theorem qd_Z_addTable_26 : decode qc_Z_addTable 26 = .ok (.aload_n 0, 1) := by decide +kernel
theorem qd_Z_addTable_27 : decode qc_Z_addTable 27 = .ok (.getfield 29, 3) := by decide +kernel
theorem qd_Z_addTable_30 : decode qc_Z_addTable 30 = .ok (.bipush 8, 2) := by decide +kernel
theorem qd_Z_addTable_32 : decode qc_Z_addTable 32 = .ok (.iload_n 1, 1) := by decide +kernel
theorem qd_Z_addTable_33 : decode qc_Z_addTable 33 = .ok (.imul, 1) := by decide +kernel
theorem qd_Z_addTable_34 : decode qc_Z_addTable 34 = .ok (.iload_n 2, 1) := by decide +kernel
theorem qd_Z_addTable_35 : decode qc_Z_addTable 35 = .ok (.iadd, 1) := by decide +kernel
theorem qd_Z_addTable_36 : decode qc_Z_addTable 36 = .ok (.iaload, 1) := by decide +kernel
theorem qd_Z_addTable_37 : decode qc_Z_addTable 37 = .ok (.aload_n 0, 1) := by decide +kernel
theorem qd_Z_addTable_38 : decode qc_Z_addTable 38 = .ok (.getfield 32, 3) := by decide +kernel
theorem qd_Z_addTable_41 : decode qc_Z_addTable 41 = .ok (.bipush 8, 2) := by decide +kernel
theorem qd_Z_addTable_43 : decode qc_Z_addTable 43 = .ok (.iload_n 1, 1) := by decide +kernel
theorem qd_Z_addTable_44 : decode qc_Z_addTable 44 = .ok (.imul, 1) := by decide +kernel
theorem qd_Z_addTable_45 : decode qc_Z_addTable 45 = .ok (.iload_n 2, 1) := by decide +kernel
theorem qd_Z_addTable_46 : decode qc_Z_addTable 46 = .ok (.iadd, 1) := by decide +kernel
theorem qd_Z_addTable_47 : decode qc_Z_addTable 47 = .ok (.iaload, 1) := by decide +kernel
theorem qd_Z_addTable_48 : decode qc_Z_addTable 48 = .ok (.invokevirtual 98, 3) := by decide +kernel
theorem qd_Z_addTable_51 : decode qc_Z_addTable 51 = .ok (.iinc 2 1, 3) := by decide +kernel
theorem qd_Z_addTable_54 : decode qc_Z_addTable 54 = .ok (.goto (-52), 3) := by decide +kernel
theorem qd_Z_addTable_57 : decode qc_Z_addTable 57 = .ok (.return_, 1) := by decide +kernel
theorem qd_Z_crash_0 : decode qc_Z_crash 0 = .ok (.aload_n 0, 1) := by decide +kernel
theorem qd_Z_crash_1 : decode qc_Z_crash 1 = .ok (.iload_n 1, 1) := by decide +kernel
theorem qd_Z_crash_2 : decode qc_Z_crash 2 = .ok (.invokevirtual 127, 3) := by decide +kernel
theorem qd_Z_crash_5 : decode qc_Z_crash 5 = .ok (.ifCond .ne 5, 3) := by decide +kernel
theorem qd_Z_crash_8 : decode qc_Z_crash 8 = .ok (.iconst 0, 1) := by decide +kernel
theorem qd_Z_crash_9 : decode qc_Z_crash 9 = .ok (.ireturn, 1) := by decide +kernel
theorem qd_Z_crash_10 : decode qc_Z_crash 10 = .ok (.aload_n 0, 1) := by decide +kernel
theorem qd_Z_crash_11 : decode qc_Z_crash 11 = .ok (.getfield 20, 3) := by decide +kernel
theorem qd_Z_crash_14 : decode qc_Z_crash 14 = .ok (.iload_n 1, 1) := by decide +kernel
theorem qd_Z_crash_15 : decode qc_Z_crash 15 = .ok (.iconst 0, 1) := by decide +kernel
theorem qd_Z_crash_16 : decode qc_Z_crash 16 = .ok (.bastore, 1) := by decide +kernel
theorem qd_Z_crash_17 : decode qc_Z_crash 17 = .ok (.iconst 1, 1) := by decide +kernel
theorem qd_Z_crash_18 : decode qc_Z_crash 18 = .ok (.ireturn, 1) := by decide +kernel
theorem qd_Z_isRunning_0 : decode qc_Z_isRunning 0 = .ok (.aload_n 0, 1) := by decide +kernel
theorem qd_Z_isRunning_1 : decode qc_Z_isRunning 1 = .ok (.iload_n 1, 1) := by decide +kernel
theorem qd_Z_isRunning_2 : decode qc_Z_isRunning 2 = .ok (.invokevirtual 90, 3) := by decide +kernel
theorem qd_Z_isRunning_5 : decode qc_Z_isRunning 5 = .ok (.ifCond .eq 16, 3) := by decide +kernel
theorem qd_Z_isRunning_8 : decode qc_Z_isRunning 8 = .ok (.aload_n 0, 1) := by decide +kernel
theorem qd_Z_isRunning_9 : decode qc_Z_isRunning 9 = .ok (.getfield 20, 3) := by decide +kernel
theorem qd_Z_isRunning_12 : decode qc_Z_isRunning 12 = .ok (.iload_n 1, 1) := by decide +kernel
theorem qd_Z_isRunning_13 : decode qc_Z_isRunning 13 = .ok (.baload, 1) := by decide +kernel
theorem qd_Z_isRunning_14 : decode qc_Z_isRunning 14 = .ok (.ifCond .eq 7, 3) := by decide +kernel
theorem qd_Z_isRunning_17 : decode qc_Z_isRunning 17 = .ok (.iconst 1, 1) := by decide +kernel
theorem qd_Z_isRunning_18 : decode qc_Z_isRunning 18 = .ok (.goto 4, 3) := by decide +kernel
theorem qd_Z_isRunning_21 : decode qc_Z_isRunning 21 = .ok (.iconst 0, 1) := by decide +kernel
theorem qd_Z_isRunning_22 : decode qc_Z_isRunning 22 = .ok (.ireturn, 1) := by decide +kernel
theorem qd_Z_leave_0 : decode qc_Z_leave 0 = .ok (.aload_n 0, 1) := by decide +kernel
theorem qd_Z_leave_1 : decode qc_Z_leave 1 = .ok (.iload_n 1, 1) := by decide +kernel
theorem qd_Z_leave_2 : decode qc_Z_leave 2 = .ok (.invokevirtual 127, 3) := by decide +kernel
theorem qd_Z_leave_5 : decode qc_Z_leave 5 = .ok (.ifCond .ne 5, 3) := by decide +kernel
theorem qd_Z_leave_8 : decode qc_Z_leave 8 = .ok (.iconst 0, 1) := by decide +kernel
theorem qd_Z_leave_9 : decode qc_Z_leave 9 = .ok (.ireturn, 1) := by decide +kernel
theorem qd_Z_leave_10 : decode qc_Z_leave 10 = .ok (.aload_n 0, 1) := by decide +kernel
theorem qd_Z_leave_11 : decode qc_Z_leave 11 = .ok (.iload_n 1, 1) := by decide +kernel
theorem qd_Z_leave_12 : decode qc_Z_leave 12 = .ok (.iload_n 1, 1) := by decide +kernel
theorem qd_Z_leave_13 : decode qc_Z_leave 13 = .ok (.iconst 3, 1) := by decide +kernel
theorem qd_Z_leave_14 : decode qc_Z_leave 14 = .ok (.aload_n 0, 1) := by decide +kernel
theorem qd_Z_leave_15 : decode qc_Z_leave 15 = .ok (.getfield 32, 3) := by decide +kernel
theorem qd_Z_leave_18 : decode qc_Z_leave 18 = .ok (.bipush 9, 2) := by decide +kernel
theorem qd_Z_leave_20 : decode qc_Z_leave 20 = .ok (.iload_n 1, 1) := by decide +kernel
theorem qd_Z_leave_21 : decode qc_Z_leave 21 = .ok (.imul, 1) := by decide +kernel
theorem qd_Z_leave_22 : decode qc_Z_leave 22 = .ok (.iaload, 1) := by decide +kernel
theorem qd_Z_leave_23 : decode qc_Z_leave 23 = .ok (.invokevirtual 115, 3) := by decide +kernel
theorem qd_Z_leave_26 : decode qc_Z_leave 26 = .ok (.iconst 0, 1) := by decide +kernel
theorem qd_Z_leave_27 : decode qc_Z_leave 27 = .ok (.istore_n 2, 1) := by decide +kernel
theorem qd_Z_leave_28 : decode qc_Z_leave 28 = .ok (.iload_n 2, 1) := by decide +kernel
theorem qd_Z_leave_29 : decode qc_Z_leave 29 = .ok (.aload_n 0, 1) := by decide +kernel
theorem qd_Z_leave_30 : decode qc_Z_leave 30 = .ok (.getfield 86, 3) := by decide +kernel
theorem qd_Z_leave_33 : decode qc_Z_leave 33 = .ok (.if_icmp .ge 39, 3) := by decide +kernel
theorem qd_Z_leave_36 : decode qc_Z_leave 36 = .ok (.iload_n 2, 1) := by decide +kernel
theorem qd_Z_leave_37 : decode qc_Z_leave 37 = .ok (.iload_n 1, 1) := by decide +kernel
theorem qd_Z_leave_38 : decode qc_Z_leave 38 = .ok (.if_icmp .eq 28, 3) := by decide +kernel
theorem qd_Z_leave_41 : decode qc_Z_leave 41 = .ok (.aload_n 0, 1) := by decide +kernel
theorem qd_Z_leave_42 : decode qc_Z_leave 42 = .ok (.getfield 29, 3) := by decide +kernel
theorem qd_Z_leave_45 : decode qc_Z_leave 45 = .ok (.bipush 8, 2) := by decide +kernel
theorem qd_Z_leave_47 : decode qc_Z_leave 47 = .ok (.iload_n 1, 1) := by decide +kernel
theorem qd_Z_leave_48 : decode qc_Z_leave 48 = .ok (.imul, 1) := by decide +kernel
theorem qd_Z_leave_49 : decode qc_Z_leave 49 = .ok (.iload_n 2, 1) := by decide +kernel
theorem qd_Z_leave_50 : decode qc_Z_leave 50 = .ok (.iadd, 1) := by decide +kernel
theorem qd_Z_leave_51 : decode qc_Z_leave 51 = .ok (.iaload, 1) := by decide +kernel
theorem qd_Z_leave_52 : decode qc_Z_leave 52 = .ok (.iconst 1, 1) := by decide +kernel
theorem qd_Z_leave_53 : decode qc_Z_leave 53 = .ok (.if_icmp .ne 13, 3) := by decide +kernel
theorem qd_Z_leave_56 : decode qc_Z_leave 56 = .ok (.aload_n 0, 1) := by decide +kernel
theorem qd_Z_leave_57 : decode qc_Z_leave 57 = .ok (.iconst 5, 1) := by decide +kernel
theorem qd_Z_leave_58 : decode qc_Z_leave 58 = .ok (.iload_n 1, 1) := by decide +kernel
theorem qd_Z_leave_59 : decode qc_Z_leave 59 = .ok (.iload_n 2, 1) := by decide +kernel
theorem qd_Z_leave_60 : decode qc_Z_leave 60 = .ok (.iconst 0, 1) := by decide +kernel
theorem qd_Z_leave_61 : decode qc_Z_leave 61 = .ok (.iconst 0, 1) := by decide +kernel
theorem qd_Z_leave_62 : decode qc_Z_leave 62 = .ok (.iconst 0, 1) := by decide +kernel
theorem qd_Z_leave_63 : decode qc_Z_leave 63 = .ok (.invokevirtual 123, 3) := by decide +kernel
theorem qd_Z_leave_66 : decode qc_Z_leave 66 = .ok (.iinc 2 1, 3) := by decide +kernel
theorem qd_Z_leave_69 : decode qc_Z_leave 69 = .ok (.goto (-41), 3) := by decide +kernel
theorem qd_Z_leave_72 : decode qc_Z_leave 72 = .ok (.aload_n 0, 1) := by decide +kernel
theorem qd_Z_leave_73 : decode qc_Z_leave 73 = .ok (.getfield 20, 3) := by decide +kernel
theorem qd_Z_leave_76 : decode qc_Z_leave 76 = .ok (.iload_n 1, 1) := by decide +kernel
theorem qd_Z_leave_77 : decode qc_Z_leave 77 = .ok (.iconst 0, 1) := by decide +kernel
theorem qd_Z_leave_78 : decode qc_Z_leave 78 = .ok (.bastore, 1) := by decide +kernel
theorem qd_Z_leave_79 : decode qc_Z_leave 79 = .ok (.iconst 1, 1) := by decide +kernel
theorem qd_Z_leave_80 : decode qc_Z_leave 80 = .ok (.ireturn, 1) := by decide +kernel
theorem qd_Z_cut_0 : decode qc_Z_cut 0 = .ok (.aload_n 0, 1) := by decide +kernel
theorem qd_Z_cut_1 : decode qc_Z_cut 1 = .ok (.iload_n 1, 1) := by decide +kernel
theorem qd_Z_cut_2 : decode qc_Z_cut 2 = .ok (.invokevirtual 90, 3) := by decide +kernel
theorem qd_Z_cut_5 : decode qc_Z_cut 5 = .ok (.ifCond .eq 31, 3) := by decide +kernel
theorem qd_Z_cut_8 : decode qc_Z_cut 8 = .ok (.aload_n 0, 1) := by decide +kernel
theorem qd_Z_cut_9 : decode qc_Z_cut 9 = .ok (.iload_n 2, 1) := by decide +kernel
theorem qd_Z_cut_10 : decode qc_Z_cut 10 = .ok (.invokevirtual 90, 3) := by decide +kernel
theorem qd_Z_cut_13 : decode qc_Z_cut 13 = .ok (.ifCond .eq 23, 3) := by decide +kernel
theorem qd_Z_cut_16 : decode qc_Z_cut 16 = .ok (.iload_n 1, 1) := by decide +kernel
theorem qd_Z_cut_17 : decode qc_Z_cut 17 = .ok (.iload_n 2, 1) := by decide +kernel
theorem qd_Z_cut_18 : decode qc_Z_cut 18 = .ok (.if_icmp .eq 18, 3) := by decide +kernel
theorem qd_Z_cut_21 : decode qc_Z_cut 21 = .ok (.aload_n 0, 1) := by decide +kernel
theorem qd_Z_cut_22 : decode qc_Z_cut 22 = .ok (.getfield 16, 3) := by decide +kernel
theorem qd_Z_cut_25 : decode qc_Z_cut 25 = .ok (.bipush 8, 2) := by decide +kernel
theorem qd_Z_cut_27 : decode qc_Z_cut 27 = .ok (.iload_n 1, 1) := by decide +kernel
theorem qd_Z_cut_28 : decode qc_Z_cut 28 = .ok (.imul, 1) := by decide +kernel
theorem qd_Z_cut_29 : decode qc_Z_cut 29 = .ok (.iload_n 2, 1) := by decide +kernel
theorem qd_Z_cut_30 : decode qc_Z_cut 30 = .ok (.iadd, 1) := by decide +kernel
theorem qd_Z_cut_31 : decode qc_Z_cut 31 = .ok (.baload, 1) := by decide +kernel
theorem qd_Z_cut_32 : decode qc_Z_cut 32 = .ok (.iload_n 3, 1) := by decide +kernel
theorem qd_Z_cut_33 : decode qc_Z_cut 33 = .ok (.if_icmp .ne 5, 3) := by decide +kernel
theorem qd_Z_cut_36 : decode qc_Z_cut 36 = .ok (.iconst 0, 1) := by decide +kernel
theorem qd_Z_cut_37 : decode qc_Z_cut 37 = .ok (.ireturn, 1) := by decide +kernel
theorem qd_Z_cut_38 : decode qc_Z_cut 38 = .ok (.aload_n 0, 1) := by decide +kernel
theorem qd_Z_cut_39 : decode qc_Z_cut 39 = .ok (.getfield 16, 3) := by decide +kernel
theorem qd_Z_cut_42 : decode qc_Z_cut 42 = .ok (.bipush 8, 2) := by decide +kernel
theorem qd_Z_cut_44 : decode qc_Z_cut 44 = .ok (.iload_n 1, 1) := by decide +kernel
theorem qd_Z_cut_45 : decode qc_Z_cut 45 = .ok (.imul, 1) := by decide +kernel
theorem qd_Z_cut_46 : decode qc_Z_cut 46 = .ok (.iload_n 2, 1) := by decide +kernel
theorem qd_Z_cut_47 : decode qc_Z_cut 47 = .ok (.iadd, 1) := by decide +kernel
theorem qd_Z_cut_48 : decode qc_Z_cut 48 = .ok (.iload_n 3, 1) := by decide +kernel
theorem qd_Z_cut_49 : decode qc_Z_cut 49 = .ok (.bastore, 1) := by decide +kernel
theorem qd_Z_cut_50 : decode qc_Z_cut 50 = .ok (.aload_n 0, 1) := by decide +kernel
theorem qd_Z_cut_51 : decode qc_Z_cut 51 = .ok (.getfield 16, 3) := by decide +kernel
theorem qd_Z_cut_54 : decode qc_Z_cut 54 = .ok (.bipush 8, 2) := by decide +kernel
theorem qd_Z_cut_56 : decode qc_Z_cut 56 = .ok (.iload_n 2, 1) := by decide +kernel
theorem qd_Z_cut_57 : decode qc_Z_cut 57 = .ok (.imul, 1) := by decide +kernel
theorem qd_Z_cut_58 : decode qc_Z_cut 58 = .ok (.iload_n 1, 1) := by decide +kernel
theorem qd_Z_cut_59 : decode qc_Z_cut 59 = .ok (.iadd, 1) := by decide +kernel
theorem qd_Z_cut_60 : decode qc_Z_cut 60 = .ok (.iload_n 3, 1) := by decide +kernel
theorem qd_Z_cut_61 : decode qc_Z_cut 61 = .ok (.bastore, 1) := by decide +kernel
theorem qd_Z_cut_62 : decode qc_Z_cut 62 = .ok (.iconst 1, 1) := by decide +kernel
theorem qd_Z_cut_63 : decode qc_Z_cut 63 = .ok (.ireturn, 1) := by decide +kernel
theorem qd_Z_drop_0 : decode qc_Z_drop 0 = .ok (.iload_n 1, 1) := by decide +kernel
theorem qd_Z_drop_1 : decode qc_Z_drop 1 = .ok (.ifCond .lt 11, 3) := by decide +kernel
theorem qd_Z_drop_4 : decode qc_Z_drop 4 = .ok (.iload_n 1, 1) := by decide +kernel
theorem qd_Z_drop_5 : decode qc_Z_drop 5 = .ok (.aload_n 0, 1) := by decide +kernel
theorem qd_Z_drop_6 : decode qc_Z_drop 6 = .ok (.getfield 109, 3) := by decide +kernel
theorem qd_Z_drop_9 : decode qc_Z_drop 9 = .ok (.if_icmp .lt 5, 3) := by decide +kernel
theorem qd_Z_drop_12 : decode qc_Z_drop 12 = .ok (.iconst 0, 1) := by decide +kernel
theorem qd_Z_drop_13 : decode qc_Z_drop 13 = .ok (.ireturn, 1) := by decide +kernel
theorem qd_Z_drop_14 : decode qc_Z_drop 14 = .ok (.aload_n 0, 1) := by decide +kernel
theorem qd_Z_drop_15 : decode qc_Z_drop 15 = .ok (.iload_n 1, 1) := by decide +kernel
theorem qd_Z_drop_16 : decode qc_Z_drop 16 = .ok (.invokevirtual 130, 3) := by decide +kernel
theorem qd_Z_drop_19 : decode qc_Z_drop 19 = .ok (.iconst 1, 1) := by decide +kernel
theorem qd_Z_drop_20 : decode qc_Z_drop 20 = .ok (.ireturn, 1) := by decide +kernel
theorem qd_Z_remove_0 : decode qc_Z_remove 0 = .ok (.aload_n 0, 1) := by decide +kernel
theorem qd_Z_remove_1 : decode qc_Z_remove 1 = .ok (.dup, 1) := by decide +kernel
theorem qd_Z_remove_2 : decode qc_Z_remove 2 = .ok (.getfield 109, 3) := by decide +kernel
theorem qd_Z_remove_5 : decode qc_Z_remove 5 = .ok (.iconst 1, 1) := by decide +kernel
theorem qd_Z_remove_6 : decode qc_Z_remove 6 = .ok (.isub, 1) := by decide +kernel
theorem qd_Z_remove_7 : decode qc_Z_remove 7 = .ok (.putfield 109, 3) := by decide +kernel
theorem qd_Z_remove_10 : decode qc_Z_remove 10 = .ok (.bipush 32, 2) := by decide +kernel
theorem qd_Z_remove_12 : decode qc_Z_remove 12 = .ok (.iload_n 1, 1) := by decide +kernel
theorem qd_Z_remove_13 : decode qc_Z_remove 13 = .ok (.imul, 1) := by decide +kernel
theorem qd_Z_remove_14 : decode qc_Z_remove 14 = .ok (.istore_n 2, 1) := by decide +kernel
theorem qd_Z_remove_15 : decode qc_Z_remove 15 = .ok (.iload_n 2, 1) := by decide +kernel
theorem qd_Z_remove_16 : decode qc_Z_remove 16 = .ok (.bipush 32, 2) := by decide +kernel
theorem qd_Z_remove_18 : decode qc_Z_remove 18 = .ok (.aload_n 0, 1) := by decide +kernel
theorem qd_Z_remove_19 : decode qc_Z_remove 19 = .ok (.getfield 109, 3) := by decide +kernel
theorem qd_Z_remove_22 : decode qc_Z_remove 22 = .ok (.imul, 1) := by decide +kernel
theorem qd_Z_remove_23 : decode qc_Z_remove 23 = .ok (.if_icmp .ge 24, 3) := by decide +kernel
theorem qd_Z_remove_26 : decode qc_Z_remove 26 = .ok (.aload_n 0, 1) := by decide +kernel
theorem qd_Z_remove_27 : decode qc_Z_remove 27 = .ok (.getfield 7, 3) := by decide +kernel
theorem qd_Z_remove_30 : decode qc_Z_remove 30 = .ok (.iload_n 2, 1) := by decide +kernel
theorem qd_Z_remove_31 : decode qc_Z_remove 31 = .ok (.aload_n 0, 1) := by decide +kernel
theorem qd_Z_remove_32 : decode qc_Z_remove 32 = .ok (.getfield 7, 3) := by decide +kernel
theorem qd_Z_remove_35 : decode qc_Z_remove 35 = .ok (.iload_n 2, 1) := by decide +kernel
theorem qd_Z_remove_36 : decode qc_Z_remove 36 = .ok (.bipush 32, 2) := by decide +kernel
theorem qd_Z_remove_38 : decode qc_Z_remove 38 = .ok (.iadd, 1) := by decide +kernel
theorem qd_Z_remove_39 : decode qc_Z_remove 39 = .ok (.iaload, 1) := by decide +kernel
theorem qd_Z_remove_40 : decode qc_Z_remove 40 = .ok (.iastore, 1) := by decide +kernel
theorem qd_Z_remove_41 : decode qc_Z_remove 41 = .ok (.iinc 2 1, 3) := by decide +kernel
theorem qd_Z_remove_44 : decode qc_Z_remove 44 = .ok (.goto (-29), 3) := by decide +kernel
theorem qd_Z_remove_47 : decode qc_Z_remove 47 = .ok (.return_, 1) := by decide +kernel
theorem qd_Z_swap_0 : decode qc_Z_swap 0 = .ok (.iload_n 1, 1) := by decide +kernel
theorem qd_Z_swap_1 : decode qc_Z_swap 1 = .ok (.ifCond .lt 13, 3) := by decide +kernel
theorem qd_Z_swap_4 : decode qc_Z_swap 4 = .ok (.iload_n 1, 1) := by decide +kernel
theorem qd_Z_swap_5 : decode qc_Z_swap 5 = .ok (.aload_n 0, 1) := by decide +kernel
theorem qd_Z_swap_6 : decode qc_Z_swap 6 = .ok (.getfield 109, 3) := by decide +kernel
theorem qd_Z_swap_9 : decode qc_Z_swap 9 = .ok (.iconst 1, 1) := by decide +kernel
theorem qd_Z_swap_10 : decode qc_Z_swap 10 = .ok (.isub, 1) := by decide +kernel
theorem qd_Z_swap_11 : decode qc_Z_swap 11 = .ok (.if_icmp .lt 5, 3) := by decide +kernel
theorem qd_Z_swap_14 : decode qc_Z_swap 14 = .ok (.iconst 0, 1) := by decide +kernel
theorem qd_Z_swap_15 : decode qc_Z_swap 15 = .ok (.ireturn, 1) := by decide +kernel
theorem qd_Z_swap_16 : decode qc_Z_swap 16 = .ok (.bipush 32, 2) := by decide +kernel
theorem qd_Z_swap_18 : decode qc_Z_swap 18 = .ok (.iload_n 1, 1) := by decide +kernel
theorem qd_Z_swap_19 : decode qc_Z_swap 19 = .ok (.imul, 1) := by decide +kernel
theorem qd_Z_swap_20 : decode qc_Z_swap 20 = .ok (.istore_n 2, 1) := by decide +kernel
theorem qd_Z_swap_21 : decode qc_Z_swap 21 = .ok (.iload_n 2, 1) := by decide +kernel
theorem qd_Z_swap_22 : decode qc_Z_swap 22 = .ok (.bipush 32, 2) := by decide +kernel
theorem qd_Z_swap_24 : decode qc_Z_swap 24 = .ok (.iload_n 1, 1) := by decide +kernel
theorem qd_Z_swap_25 : decode qc_Z_swap 25 = .ok (.imul, 1) := by decide +kernel
theorem qd_Z_swap_26 : decode qc_Z_swap 26 = .ok (.bipush 32, 2) := by decide +kernel
theorem qd_Z_swap_28 : decode qc_Z_swap 28 = .ok (.iadd, 1) := by decide +kernel
theorem qd_Z_swap_29 : decode qc_Z_swap 29 = .ok (.if_icmp .ge 41, 3) := by decide +kernel
theorem qd_Z_swap_32 : decode qc_Z_swap 32 = .ok (.aload_n 0, 1) := by decide +kernel
theorem qd_Z_swap_33 : decode qc_Z_swap 33 = .ok (.getfield 7, 3) := by decide +kernel
theorem qd_Z_swap_36 : decode qc_Z_swap 36 = .ok (.iload_n 2, 1) := by decide +kernel
theorem qd_Z_swap_37 : decode qc_Z_swap 37 = .ok (.iaload, 1) := by decide +kernel
theorem qd_Z_swap_38 : decode qc_Z_swap 38 = .ok (.istore_n 3, 1) := by decide +kernel
theorem qd_Z_swap_39 : decode qc_Z_swap 39 = .ok (.aload_n 0, 1) := by decide +kernel
theorem qd_Z_swap_40 : decode qc_Z_swap 40 = .ok (.getfield 7, 3) := by decide +kernel
theorem qd_Z_swap_43 : decode qc_Z_swap 43 = .ok (.iload_n 2, 1) := by decide +kernel
theorem qd_Z_swap_44 : decode qc_Z_swap 44 = .ok (.aload_n 0, 1) := by decide +kernel
theorem qd_Z_swap_45 : decode qc_Z_swap 45 = .ok (.getfield 7, 3) := by decide +kernel
theorem qd_Z_swap_48 : decode qc_Z_swap 48 = .ok (.iload_n 2, 1) := by decide +kernel
theorem qd_Z_swap_49 : decode qc_Z_swap 49 = .ok (.bipush 32, 2) := by decide +kernel
theorem qd_Z_swap_51 : decode qc_Z_swap 51 = .ok (.iadd, 1) := by decide +kernel
theorem qd_Z_swap_52 : decode qc_Z_swap 52 = .ok (.iaload, 1) := by decide +kernel
theorem qd_Z_swap_53 : decode qc_Z_swap 53 = .ok (.iastore, 1) := by decide +kernel
theorem qd_Z_swap_54 : decode qc_Z_swap 54 = .ok (.aload_n 0, 1) := by decide +kernel
theorem qd_Z_swap_55 : decode qc_Z_swap 55 = .ok (.getfield 7, 3) := by decide +kernel
theorem qd_Z_swap_58 : decode qc_Z_swap 58 = .ok (.iload_n 2, 1) := by decide +kernel
theorem qd_Z_swap_59 : decode qc_Z_swap 59 = .ok (.bipush 32, 2) := by decide +kernel
theorem qd_Z_swap_61 : decode qc_Z_swap 61 = .ok (.iadd, 1) := by decide +kernel
theorem qd_Z_swap_62 : decode qc_Z_swap 62 = .ok (.iload_n 3, 1) := by decide +kernel
theorem qd_Z_swap_63 : decode qc_Z_swap 63 = .ok (.iastore, 1) := by decide +kernel
theorem qd_Z_swap_64 : decode qc_Z_swap 64 = .ok (.iinc 2 1, 3) := by decide +kernel
theorem qd_Z_swap_67 : decode qc_Z_swap 67 = .ok (.goto (-46), 3) := by decide +kernel
theorem qd_Z_swap_70 : decode qc_Z_swap 70 = .ok (.iconst 1, 1) := by decide +kernel
theorem qd_Z_swap_71 : decode qc_Z_swap 71 = .ok (.ireturn, 1) := by decide +kernel
theorem qd_Z_ticks_0 : decode qc_Z_ticks 0 = .ok (.iload_n 1, 1) := by decide +kernel
theorem qd_Z_ticks_1 : decode qc_Z_ticks 1 = .ok (.ifCond .lt 9, 3) := by decide +kernel
theorem qd_Z_ticks_4 : decode qc_Z_ticks 4 = .ok (.iload_n 1, 1) := by decide +kernel
theorem qd_Z_ticks_5 : decode qc_Z_ticks 5 = .ok (.bipush 100, 2) := by decide +kernel
theorem qd_Z_ticks_7 : decode qc_Z_ticks 7 = .ok (.if_icmp .le 5, 3) := by decide +kernel
theorem qd_Z_ticks_10 : decode qc_Z_ticks 10 = .ok (.iconst (-1), 1) := by decide +kernel
theorem qd_Z_ticks_11 : decode qc_Z_ticks 11 = .ok (.ireturn, 1) := by decide +kernel
theorem qd_Z_ticks_12 : decode qc_Z_ticks 12 = .ok (.iconst 0, 1) := by decide +kernel
theorem qd_Z_ticks_13 : decode qc_Z_ticks 13 = .ok (.istore_n 2, 1) := by decide +kernel
theorem qd_Z_ticks_14 : decode qc_Z_ticks 14 = .ok (.iconst 0, 1) := by decide +kernel
theorem qd_Z_ticks_15 : decode qc_Z_ticks 15 = .ok (.istore_n 3, 1) := by decide +kernel
theorem qd_Z_ticks_16 : decode qc_Z_ticks 16 = .ok (.iload_n 3, 1) := by decide +kernel
theorem qd_Z_ticks_17 : decode qc_Z_ticks 17 = .ok (.iload_n 1, 1) := by decide +kernel
theorem qd_Z_ticks_18 : decode qc_Z_ticks 18 = .ok (.if_icmp .ge 90, 3) := by decide +kernel
theorem qd_Z_ticks_21 : decode qc_Z_ticks 21 = .ok (.aload_n 0, 1) := by decide +kernel
theorem qd_Z_ticks_22 : decode qc_Z_ticks 22 = .ok (.dup, 1) := by decide +kernel
theorem qd_Z_ticks_23 : decode qc_Z_ticks 23 = .ok (.getfield 112, 3) := by decide +kernel
theorem qd_Z_ticks_26 : decode qc_Z_ticks 26 = .ok (.iconst 1, 1) := by decide +kernel
theorem qd_Z_ticks_27 : decode qc_Z_ticks 27 = .ok (.iadd, 1) := by decide +kernel
theorem qd_Z_ticks_28 : decode qc_Z_ticks 28 = .ok (.putfield 112, 3) := by decide +kernel
theorem qd_Z_ticks_31 : decode qc_Z_ticks 31 = .ok (.aload_n 0, 1) := by decide +kernel
theorem qd_Z_ticks_32 : decode qc_Z_ticks 32 = .ok (.getfield 109, 3) := by decide +kernel
theorem qd_Z_ticks_35 : decode qc_Z_ticks 35 = .ok (.istore 4, 2) := by decide +kernel
theorem qd_Z_ticks_37 : decode qc_Z_ticks 37 = .ok (.iconst 0, 1) := by decide +kernel
theorem qd_Z_ticks_38 : decode qc_Z_ticks 38 = .ok (.istore 5, 2) := by decide +kernel
theorem qd_Z_ticks_40 : decode qc_Z_ticks 40 = .ok (.iload 5, 2) := by decide +kernel
theorem qd_Z_ticks_42 : decode qc_Z_ticks 42 = .ok (.iload 4, 2) := by decide +kernel
theorem qd_Z_ticks_44 : decode qc_Z_ticks 44 = .ok (.if_icmp .ge 24, 3) := by decide +kernel
theorem qd_Z_ticks_47 : decode qc_Z_ticks 47 = .ok (.iload_n 2, 1) := by decide +kernel
theorem qd_Z_ticks_48 : decode qc_Z_ticks 48 = .ok (.aload_n 0, 1) := by decide +kernel
theorem qd_Z_ticks_49 : decode qc_Z_ticks 49 = .ok (.invokevirtual 175, 3) := by decide +kernel
theorem qd_Z_ticks_52 : decode qc_Z_ticks 52 = .ok (.ifCond .eq 7, 3) := by decide +kernel
theorem qd_Z_ticks_55 : decode qc_Z_ticks 55 = .ok (.iconst 1, 1) := by decide +kernel
theorem qd_Z_ticks_56 : decode qc_Z_ticks 56 = .ok (.goto 4, 3) := by decide +kernel
theorem qd_Z_ticks_59 : decode qc_Z_ticks 59 = .ok (.iconst 0, 1) := by decide +kernel
theorem qd_Z_ticks_60 : decode qc_Z_ticks 60 = .ok (.iadd, 1) := by decide +kernel
theorem qd_Z_ticks_61 : decode qc_Z_ticks 61 = .ok (.istore_n 2, 1) := by decide +kernel
theorem qd_Z_ticks_62 : decode qc_Z_ticks 62 = .ok (.iinc 5 1, 3) := by decide +kernel
theorem qd_Z_ticks_65 : decode qc_Z_ticks 65 = .ok (.goto (-25), 3) := by decide +kernel
theorem qd_Z_ticks_68 : decode qc_Z_ticks 68 = .ok (.iconst 0, 1) := by decide +kernel
theorem qd_Z_ticks_69 : decode qc_Z_ticks 69 = .ok (.istore 5, 2) := by decide +kernel
theorem qd_Z_ticks_71 : decode qc_Z_ticks 71 = .ok (.iload 5, 2) := by decide +kernel
theorem qd_Z_ticks_73 : decode qc_Z_ticks 73 = .ok (.aload_n 0, 1) := by decide +kernel
theorem qd_Z_ticks_74 : decode qc_Z_ticks 74 = .ok (.getfield 86, 3) := by decide +kernel
theorem qd_Z_ticks_77 : decode qc_Z_ticks 77 = .ok (.if_icmp .ge 25, 3) := by decide +kernel
theorem qd_Z_ticks_80 : decode qc_Z_ticks 80 = .ok (.aload_n 0, 1) := by decide +kernel
theorem qd_Z_ticks_81 : decode qc_Z_ticks 81 = .ok (.getfield 20, 3) := by decide +kernel
theorem qd_Z_ticks_84 : decode qc_Z_ticks 84 = .ok (.iload 5, 2) := by decide +kernel
theorem qd_Z_ticks_86 : decode qc_Z_ticks 86 = .ok (.baload, 1) := by decide +kernel
theorem qd_Z_ticks_87 : decode qc_Z_ticks 87 = .ok (.ifCond .eq 9, 3) := by decide +kernel
theorem qd_Z_ticks_90 : decode qc_Z_ticks 90 = .ok (.aload_n 0, 1) := by decide +kernel
theorem qd_Z_ticks_91 : decode qc_Z_ticks 91 = .ok (.iload 5, 2) := by decide +kernel
theorem qd_Z_ticks_93 : decode qc_Z_ticks 93 = .ok (.invokevirtual 179, 3) := by decide +kernel
theorem qd_Z_ticks_96 : decode qc_Z_ticks 96 = .ok (.iinc 5 1, 3) := by decide +kernel
theorem qd_Z_ticks_99 : decode qc_Z_ticks 99 = .ok (.goto (-28), 3) := by decide +kernel
theorem qd_Z_ticks_102 : decode qc_Z_ticks 102 = .ok (.iinc 3 1, 3) := by decide +kernel
theorem qd_Z_ticks_105 : decode qc_Z_ticks 105 = .ok (.goto (-89), 3) := by decide +kernel
theorem qd_Z_ticks_108 : decode qc_Z_ticks 108 = .ok (.iload_n 2, 1) := by decide +kernel
theorem qd_Z_ticks_109 : decode qc_Z_ticks 109 = .ok (.ireturn, 1) := by decide +kernel
theorem qd_Z_arrive_0 : decode qc_Z_arrive 0 = .ok (.aload_n 0, 1) := by decide +kernel
theorem qd_Z_arrive_1 : decode qc_Z_arrive 1 = .ok (.getfield 7, 3) := by decide +kernel
theorem qd_Z_arrive_4 : decode qc_Z_arrive 4 = .ok (.iconst 0, 1) := by decide +kernel
theorem qd_Z_arrive_5 : decode qc_Z_arrive 5 = .ok (.iaload, 1) := by decide +kernel
theorem qd_Z_arrive_6 : decode qc_Z_arrive 6 = .ok (.istore_n 1, 1) := by decide +kernel
theorem qd_Z_arrive_7 : decode qc_Z_arrive 7 = .ok (.aload_n 0, 1) := by decide +kernel
theorem qd_Z_arrive_8 : decode qc_Z_arrive 8 = .ok (.getfield 7, 3) := by decide +kernel
theorem qd_Z_arrive_11 : decode qc_Z_arrive 11 = .ok (.iconst 1, 1) := by decide +kernel
theorem qd_Z_arrive_12 : decode qc_Z_arrive 12 = .ok (.iaload, 1) := by decide +kernel
theorem qd_Z_arrive_13 : decode qc_Z_arrive 13 = .ok (.istore_n 2, 1) := by decide +kernel
theorem qd_Z_arrive_14 : decode qc_Z_arrive 14 = .ok (.aload_n 0, 1) := by decide +kernel
theorem qd_Z_arrive_15 : decode qc_Z_arrive 15 = .ok (.getfield 7, 3) := by decide +kernel
theorem qd_Z_arrive_18 : decode qc_Z_arrive 18 = .ok (.iconst 2, 1) := by decide +kernel
theorem qd_Z_arrive_19 : decode qc_Z_arrive 19 = .ok (.iaload, 1) := by decide +kernel
theorem qd_Z_arrive_20 : decode qc_Z_arrive 20 = .ok (.istore_n 3, 1) := by decide +kernel
theorem qd_Z_arrive_21 : decode qc_Z_arrive 21 = .ok (.aload_n 0, 1) := by decide +kernel
theorem qd_Z_arrive_22 : decode qc_Z_arrive 22 = .ok (.getfield 7, 3) := by decide +kernel
theorem qd_Z_arrive_25 : decode qc_Z_arrive 25 = .ok (.iconst 3, 1) := by decide +kernel
theorem qd_Z_arrive_26 : decode qc_Z_arrive 26 = .ok (.iaload, 1) := by decide +kernel
theorem qd_Z_arrive_27 : decode qc_Z_arrive 27 = .ok (.istore 4, 2) := by decide +kernel
theorem qd_Z_arrive_29 : decode qc_Z_arrive 29 = .ok (.aload_n 0, 1) := by decide +kernel
theorem qd_Z_arrive_30 : decode qc_Z_arrive 30 = .ok (.getfield 7, 3) := by decide +kernel
theorem qd_Z_arrive_33 : decode qc_Z_arrive 33 = .ok (.iconst 4, 1) := by decide +kernel
theorem qd_Z_arrive_34 : decode qc_Z_arrive 34 = .ok (.iaload, 1) := by decide +kernel
theorem qd_Z_arrive_35 : decode qc_Z_arrive 35 = .ok (.istore 5, 2) := by decide +kernel
theorem qd_Z_arrive_37 : decode qc_Z_arrive 37 = .ok (.aload_n 0, 1) := by decide +kernel
theorem qd_Z_arrive_38 : decode qc_Z_arrive 38 = .ok (.getfield 7, 3) := by decide +kernel
theorem qd_Z_arrive_41 : decode qc_Z_arrive 41 = .ok (.iconst 5, 1) := by decide +kernel
theorem qd_Z_arrive_42 : decode qc_Z_arrive 42 = .ok (.iaload, 1) := by decide +kernel
theorem qd_Z_arrive_43 : decode qc_Z_arrive 43 = .ok (.istore 6, 2) := by decide +kernel
theorem qd_Z_arrive_45 : decode qc_Z_arrive 45 = .ok (.aload_n 0, 1) := by decide +kernel
theorem qd_Z_arrive_46 : decode qc_Z_arrive 46 = .ok (.getfield 7, 3) := by decide +kernel
theorem qd_Z_arrive_49 : decode qc_Z_arrive 49 = .ok (.bipush 6, 2) := by decide +kernel
theorem qd_Z_arrive_51 : decode qc_Z_arrive 51 = .ok (.iaload, 1) := by decide +kernel
theorem qd_Z_arrive_52 : decode qc_Z_arrive 52 = .ok (.istore 7, 2) := by decide +kernel
theorem qd_Z_arrive_54 : decode qc_Z_arrive 54 = .ok (.iconst 0, 1) := by decide +kernel
theorem qd_Z_arrive_55 : decode qc_Z_arrive 55 = .ok (.istore 8, 2) := by decide +kernel
theorem qd_Z_arrive_57 : decode qc_Z_arrive 57 = .ok (.iload 8, 2) := by decide +kernel
theorem qd_Z_arrive_59 : decode qc_Z_arrive 59 = .ok (.bipush 32, 2) := by decide +kernel
theorem qd_Z_arrive_61 : decode qc_Z_arrive 61 = .ok (.if_icmp .ge 23, 3) := by decide +kernel
theorem qd_Z_arrive_64 : decode qc_Z_arrive 64 = .ok (.aload_n 0, 1) := by decide +kernel
theorem qd_Z_arrive_65 : decode qc_Z_arrive 65 = .ok (.getfield 13, 3) := by decide +kernel
theorem qd_Z_arrive_68 : decode qc_Z_arrive 68 = .ok (.iload 8, 2) := by decide +kernel
theorem qd_Z_arrive_70 : decode qc_Z_arrive 70 = .ok (.aload_n 0, 1) := by decide +kernel
theorem qd_Z_arrive_71 : decode qc_Z_arrive 71 = .ok (.getfield 7, 3) := by decide +kernel
theorem qd_Z_arrive_74 : decode qc_Z_arrive 74 = .ok (.iload 8, 2) := by decide +kernel
theorem qd_Z_arrive_76 : decode qc_Z_arrive 76 = .ok (.iaload, 1) := by decide +kernel
theorem qd_Z_arrive_77 : decode qc_Z_arrive 77 = .ok (.iastore, 1) := by decide +kernel
theorem qd_Z_arrive_78 : decode qc_Z_arrive 78 = .ok (.iinc 8 1, 3) := by decide +kernel
theorem qd_Z_arrive_81 : decode qc_Z_arrive 81 = .ok (.goto (-24), 3) := by decide +kernel
theorem qd_Z_arrive_84 : decode qc_Z_arrive 84 = .ok (.aload_n 0, 1) := by decide +kernel
theorem qd_Z_arrive_85 : decode qc_Z_arrive 85 = .ok (.iconst 0, 1) := by decide +kernel
theorem qd_Z_arrive_86 : decode qc_Z_arrive 86 = .ok (.invokevirtual 130, 3) := by decide +kernel
theorem qd_Z_arrive_89 : decode qc_Z_arrive 89 = .ok (.aload_n 0, 1) := by decide +kernel
theorem qd_Z_arrive_90 : decode qc_Z_arrive 90 = .ok (.getfield 20, 3) := by decide +kernel
theorem qd_Z_arrive_93 : decode qc_Z_arrive 93 = .ok (.iload_n 3, 1) := by decide +kernel
theorem qd_Z_arrive_94 : decode qc_Z_arrive 94 = .ok (.baload, 1) := by decide +kernel
theorem qd_Z_arrive_95 : decode qc_Z_arrive 95 = .ok (.ifCond .eq 17, 3) := by decide +kernel
theorem qd_Z_arrive_98 : decode qc_Z_arrive 98 = .ok (.aload_n 0, 1) := by decide +kernel
theorem qd_Z_arrive_99 : decode qc_Z_arrive 99 = .ok (.getfield 16, 3) := by decide +kernel
theorem qd_Z_arrive_102 : decode qc_Z_arrive 102 = .ok (.bipush 8, 2) := by decide +kernel
theorem qd_Z_arrive_104 : decode qc_Z_arrive 104 = .ok (.iload_n 3, 1) := by decide +kernel
theorem qd_Z_arrive_105 : decode qc_Z_arrive 105 = .ok (.imul, 1) := by decide +kernel
theorem qd_Z_arrive_106 : decode qc_Z_arrive 106 = .ok (.iload_n 2, 1) := by decide +kernel
theorem qd_Z_arrive_107 : decode qc_Z_arrive 107 = .ok (.iadd, 1) := by decide +kernel
theorem qd_Z_arrive_108 : decode qc_Z_arrive 108 = .ok (.baload, 1) := by decide +kernel
theorem qd_Z_arrive_109 : decode qc_Z_arrive 109 = .ok (.ifCond .eq 5, 3) := by decide +kernel
theorem qd_Z_arrive_112 : decode qc_Z_arrive 112 = .ok (.iconst 0, 1) := by decide +kernel
theorem qd_Z_arrive_113 : decode qc_Z_arrive 113 = .ok (.ireturn, 1) := by decide +kernel
theorem qd_Z_arrive_114 : decode qc_Z_arrive 114 = .ok (.iconst 0, 1) := by decide +kernel
theorem qd_Z_arrive_115 : decode qc_Z_arrive 115 = .ok (.istore 8, 2) := by decide +kernel
theorem qd_Z_arrive_117 : decode qc_Z_arrive 117 = .ok (.iload 8, 2) := by decide +kernel
theorem qd_Z_arrive_119 : decode qc_Z_arrive 119 = .ok (.iload 7, 2) := by decide +kernel
theorem qd_Z_arrive_121 : decode qc_Z_arrive 121 = .ok (.if_icmp .ge 51, 3) := by decide +kernel
theorem qd_Z_arrive_124 : decode qc_Z_arrive 124 = .ok (.aload_n 0, 1) := by decide +kernel
theorem qd_Z_arrive_125 : decode qc_Z_arrive 125 = .ok (.iload_n 3, 1) := by decide +kernel
theorem qd_Z_arrive_126 : decode qc_Z_arrive 126 = .ok (.aload_n 0, 1) := by decide +kernel
theorem qd_Z_arrive_127 : decode qc_Z_arrive 127 = .ok (.getfield 13, 3) := by decide +kernel
theorem qd_Z_arrive_130 : decode qc_Z_arrive 130 = .ok (.bipush 7, 2) := by decide +kernel
theorem qd_Z_arrive_132 : decode qc_Z_arrive 132 = .ok (.iconst 3, 1) := by decide +kernel
theorem qd_Z_arrive_133 : decode qc_Z_arrive 133 = .ok (.iload 8, 2) := by decide +kernel
theorem qd_Z_arrive_135 : decode qc_Z_arrive 135 = .ok (.imul, 1) := by decide +kernel
theorem qd_Z_arrive_136 : decode qc_Z_arrive 136 = .ok (.iadd, 1) := by decide +kernel
theorem qd_Z_arrive_137 : decode qc_Z_arrive 137 = .ok (.iaload, 1) := by decide +kernel
theorem qd_Z_arrive_138 : decode qc_Z_arrive 138 = .ok (.aload_n 0, 1) := by decide +kernel
theorem qd_Z_arrive_139 : decode qc_Z_arrive 139 = .ok (.getfield 13, 3) := by decide +kernel
theorem qd_Z_arrive_142 : decode qc_Z_arrive 142 = .ok (.bipush 8, 2) := by decide +kernel
theorem qd_Z_arrive_144 : decode qc_Z_arrive 144 = .ok (.iconst 3, 1) := by decide +kernel
theorem qd_Z_arrive_145 : decode qc_Z_arrive 145 = .ok (.iload 8, 2) := by decide +kernel
theorem qd_Z_arrive_147 : decode qc_Z_arrive 147 = .ok (.imul, 1) := by decide +kernel
theorem qd_Z_arrive_148 : decode qc_Z_arrive 148 = .ok (.iadd, 1) := by decide +kernel
theorem qd_Z_arrive_149 : decode qc_Z_arrive 149 = .ok (.iaload, 1) := by decide +kernel
theorem qd_Z_arrive_150 : decode qc_Z_arrive 150 = .ok (.aload_n 0, 1) := by decide +kernel
theorem qd_Z_arrive_151 : decode qc_Z_arrive 151 = .ok (.getfield 13, 3) := by decide +kernel
theorem qd_Z_arrive_154 : decode qc_Z_arrive 154 = .ok (.bipush 9, 2) := by decide +kernel
theorem qd_Z_arrive_156 : decode qc_Z_arrive 156 = .ok (.iconst 3, 1) := by decide +kernel
theorem qd_Z_arrive_157 : decode qc_Z_arrive 157 = .ok (.iload 8, 2) := by decide +kernel
theorem qd_Z_arrive_159 : decode qc_Z_arrive 159 = .ok (.imul, 1) := by decide +kernel
theorem qd_Z_arrive_160 : decode qc_Z_arrive 160 = .ok (.iadd, 1) := by decide +kernel
theorem qd_Z_arrive_161 : decode qc_Z_arrive 161 = .ok (.iaload, 1) := by decide +kernel
theorem qd_Z_arrive_162 : decode qc_Z_arrive 162 = .ok (.iload_n 2, 1) := by decide +kernel
theorem qd_Z_arrive_163 : decode qc_Z_arrive 163 = .ok (.invokevirtual 141, 3) := by decide +kernel
theorem qd_Z_arrive_166 : decode qc_Z_arrive 166 = .ok (.iinc 8 1, 3) := by decide +kernel
theorem qd_Z_arrive_169 : decode qc_Z_arrive 169 = .ok (.goto (-52), 3) := by decide +kernel
theorem qd_Z_arrive_172 : decode qc_Z_arrive 172 = .ok (.iload_n 1, 1) := by decide +kernel
theorem qd_Z_arrive_173 : decode qc_Z_arrive 173 = .ok (.iconst 1, 1) := by decide +kernel
theorem qd_Z_arrive_174 : decode qc_Z_arrive 174 = .ok (.if_icmp .ne 16, 3) := by decide +kernel
theorem qd_Z_arrive_177 : decode qc_Z_arrive 177 = .ok (.aload_n 0, 1) := by decide +kernel
theorem qd_Z_arrive_178 : decode qc_Z_arrive 178 = .ok (.iconst 2, 1) := by decide +kernel
theorem qd_Z_arrive_179 : decode qc_Z_arrive 179 = .ok (.iload_n 3, 1) := by decide +kernel
theorem qd_Z_arrive_180 : decode qc_Z_arrive 180 = .ok (.iload_n 2, 1) := by decide +kernel
theorem qd_Z_arrive_181 : decode qc_Z_arrive 181 = .ok (.iload 4, 2) := by decide +kernel
theorem qd_Z_arrive_183 : decode qc_Z_arrive 183 = .ok (.iload 5, 2) := by decide +kernel
theorem qd_Z_arrive_185 : decode qc_Z_arrive 185 = .ok (.iload 6, 2) := by decide +kernel
theorem qd_Z_arrive_187 : decode qc_Z_arrive 187 = .ok (.invokevirtual 123, 3) := by decide +kernel
theorem qd_Z_arrive_190 : decode qc_Z_arrive 190 = .ok (.iload_n 1, 1) := by decide +kernel
theorem qd_Z_arrive_191 : decode qc_Z_arrive 191 = .ok (.iconst 2, 1) := by decide +kernel
theorem qd_Z_arrive_192 : decode qc_Z_arrive 192 = .ok (.if_icmp .ne 14, 3) := by decide +kernel
theorem qd_Z_arrive_195 : decode qc_Z_arrive 195 = .ok (.aload_n 0, 1) := by decide +kernel
theorem qd_Z_arrive_196 : decode qc_Z_arrive 196 = .ok (.iload_n 3, 1) := by decide +kernel
theorem qd_Z_arrive_197 : decode qc_Z_arrive 197 = .ok (.iload 4, 2) := by decide +kernel
theorem qd_Z_arrive_199 : decode qc_Z_arrive 199 = .ok (.iload 5, 2) := by decide +kernel
theorem qd_Z_arrive_201 : decode qc_Z_arrive 201 = .ok (.iload 6, 2) := by decide +kernel
theorem qd_Z_arrive_203 : decode qc_Z_arrive 203 = .ok (.invokevirtual 144, 3) := by decide +kernel
theorem qd_Z_arrive_206 : decode qc_Z_arrive 206 = .ok (.iload_n 1, 1) := by decide +kernel
theorem qd_Z_arrive_207 : decode qc_Z_arrive 207 = .ok (.iconst 3, 1) := by decide +kernel
theorem qd_Z_arrive_208 : decode qc_Z_arrive 208 = .ok (.if_icmp .ne 14, 3) := by decide +kernel
theorem qd_Z_arrive_211 : decode qc_Z_arrive 211 = .ok (.aload_n 0, 1) := by decide +kernel
theorem qd_Z_arrive_212 : decode qc_Z_arrive 212 = .ok (.iload_n 3, 1) := by decide +kernel
theorem qd_Z_arrive_213 : decode qc_Z_arrive 213 = .ok (.iload 4, 2) := by decide +kernel
theorem qd_Z_arrive_215 : decode qc_Z_arrive 215 = .ok (.iload 5, 2) := by decide +kernel
theorem qd_Z_arrive_217 : decode qc_Z_arrive 217 = .ok (.iload 6, 2) := by decide +kernel
theorem qd_Z_arrive_219 : decode qc_Z_arrive 219 = .ok (.invokevirtual 147, 3) := by decide +kernel
theorem qd_Z_arrive_222 : decode qc_Z_arrive 222 = .ok (.iload_n 1, 1) := by decide +kernel
theorem qd_Z_arrive_223 : decode qc_Z_arrive 223 = .ok (.iconst 4, 1) := by decide +kernel
theorem qd_Z_arrive_224 : decode qc_Z_arrive 224 = .ok (.if_icmp .ne 37, 3) := by decide +kernel
theorem qd_Z_arrive_227 : decode qc_Z_arrive 227 = .ok (.aload_n 0, 1) := by decide +kernel
theorem qd_Z_arrive_228 : decode qc_Z_arrive 228 = .ok (.getfield 77, 3) := by decide +kernel
theorem qd_Z_arrive_231 : decode qc_Z_arrive 231 = .ok (.iload_n 3, 1) := by decide +kernel
theorem qd_Z_arrive_232 : decode qc_Z_arrive 232 = .ok (.dup2, 1) := by decide +kernel
theorem qd_Z_arrive_233 : decode qc_Z_arrive 233 = .ok (.iaload, 1) := by decide +kernel
theorem qd_Z_arrive_234 : decode qc_Z_arrive 234 = .ok (.aload_n 0, 1) := by decide +kernel
theorem qd_Z_arrive_235 : decode qc_Z_arrive 235 = .ok (.getfield 56, 3) := by decide +kernel
theorem qd_Z_arrive_238 : decode qc_Z_arrive 238 = .ok (.iload_n 3, 1) := by decide +kernel
theorem qd_Z_arrive_239 : decode qc_Z_arrive 239 = .ok (.baload, 1) := by decide +kernel
theorem qd_Z_arrive_240 : decode qc_Z_arrive 240 = .ok (.ifCond .eq 18, 3) := by decide +kernel
theorem qd_Z_arrive_243 : decode qc_Z_arrive 243 = .ok (.aload_n 0, 1) := by decide +kernel
theorem qd_Z_arrive_244 : decode qc_Z_arrive 244 = .ok (.getfield 68, 3) := by decide +kernel
theorem qd_Z_arrive_247 : decode qc_Z_arrive 247 = .ok (.iload_n 3, 1) := by decide +kernel
theorem qd_Z_arrive_248 : decode qc_Z_arrive 248 = .ok (.iaload, 1) := by decide +kernel
theorem qd_Z_arrive_249 : decode qc_Z_arrive 249 = .ok (.iload 4, 2) := by decide +kernel
theorem qd_Z_arrive_251 : decode qc_Z_arrive 251 = .ok (.if_icmp .ne 7, 3) := by decide +kernel
theorem qd_Z_arrive_254 : decode qc_Z_arrive 254 = .ok (.iconst 1, 1) := by decide +kernel
theorem qd_Z_arrive_255 : decode qc_Z_arrive 255 = .ok (.goto 4, 3) := by decide +kernel
theorem qd_Z_arrive_258 : decode qc_Z_arrive 258 = .ok (.iconst 0, 1) := by decide +kernel
theorem qd_Z_arrive_259 : decode qc_Z_arrive 259 = .ok (.iadd, 1) := by decide +kernel
theorem qd_Z_arrive_260 : decode qc_Z_arrive 260 = .ok (.iastore, 1) := by decide +kernel
theorem qd_Z_arrive_261 : decode qc_Z_arrive 261 = .ok (.iload_n 1, 1) := by decide +kernel
theorem qd_Z_arrive_262 : decode qc_Z_arrive 262 = .ok (.bipush 6, 2) := by decide +kernel
theorem qd_Z_arrive_264 : decode qc_Z_arrive 264 = .ok (.if_icmp .ne 14, 3) := by decide +kernel
theorem qd_Z_arrive_267 : decode qc_Z_arrive 267 = .ok (.aload_n 0, 1) := by decide +kernel
theorem qd_Z_arrive_268 : decode qc_Z_arrive 268 = .ok (.bipush 7, 2) := by decide +kernel
theorem qd_Z_arrive_270 : decode qc_Z_arrive 270 = .ok (.iload_n 3, 1) := by decide +kernel
theorem qd_Z_arrive_271 : decode qc_Z_arrive 271 = .ok (.iload_n 2, 1) := by decide +kernel
theorem qd_Z_arrive_272 : decode qc_Z_arrive 272 = .ok (.iconst 0, 1) := by decide +kernel
theorem qd_Z_arrive_273 : decode qc_Z_arrive 273 = .ok (.iconst 0, 1) := by decide +kernel
theorem qd_Z_arrive_274 : decode qc_Z_arrive 274 = .ok (.iconst 0, 1) := by decide +kernel
theorem qd_Z_arrive_275 : decode qc_Z_arrive 275 = .ok (.invokevirtual 123, 3) := by decide +kernel
theorem qd_Z_arrive_278 : decode qc_Z_arrive 278 = .ok (.iconst 1, 1) := by decide +kernel
theorem qd_Z_arrive_279 : decode qc_Z_arrive 279 = .ok (.ireturn, 1) := by decide +kernel
theorem qd_Z_learn_0 : decode qc_Z_learn 0 = .ok (.bipush 8, 2) := by decide +kernel
theorem qd_Z_learn_2 : decode qc_Z_learn 2 = .ok (.iload_n 1, 1) := by decide +kernel
theorem qd_Z_learn_3 : decode qc_Z_learn 3 = .ok (.imul, 1) := by decide +kernel
theorem qd_Z_learn_4 : decode qc_Z_learn 4 = .ok (.iload_n 2, 1) := by decide +kernel
theorem qd_Z_learn_5 : decode qc_Z_learn 5 = .ok (.iadd, 1) := by decide +kernel
theorem qd_Z_learn_6 : decode qc_Z_learn 6 = .ok (.istore 6, 2) := by decide +kernel
theorem qd_Z_learn_8 : decode qc_Z_learn 8 = .ok (.iload_n 2, 1) := by decide +kernel
theorem qd_Z_learn_9 : decode qc_Z_learn 9 = .ok (.iload_n 1, 1) := by decide +kernel
theorem qd_Z_learn_10 : decode qc_Z_learn 10 = .ok (.if_icmp .ne 82, 3) := by decide +kernel
theorem qd_Z_learn_13 : decode qc_Z_learn 13 = .ok (.iload_n 3, 1) := by decide +kernel
theorem qd_Z_learn_14 : decode qc_Z_learn 14 = .ok (.iconst 1, 1) := by decide +kernel
theorem qd_Z_learn_15 : decode qc_Z_learn 15 = .ok (.if_icmp .ne 4, 3) := by decide +kernel
theorem qd_Z_learn_18 : decode qc_Z_learn 18 = .ok (.return_, 1) := by decide +kernel
theorem qd_Z_learn_19 : decode qc_Z_learn 19 = .ok (.iload 4, 2) := by decide +kernel
theorem qd_Z_learn_21 : decode qc_Z_learn 21 = .ok (.aload_n 0, 1) := by decide +kernel
theorem qd_Z_learn_22 : decode qc_Z_learn 22 = .ok (.getfield 32, 3) := by decide +kernel
theorem qd_Z_learn_25 : decode qc_Z_learn 25 = .ok (.iload 6, 2) := by decide +kernel
theorem qd_Z_learn_27 : decode qc_Z_learn 27 = .ok (.iaload, 1) := by decide +kernel
theorem qd_Z_learn_28 : decode qc_Z_learn 28 = .ok (.if_icmp .lt 49, 3) := by decide +kernel
theorem qd_Z_learn_31 : decode qc_Z_learn 31 = .ok (.aload_n 0, 1) := by decide +kernel
theorem qd_Z_learn_32 : decode qc_Z_learn 32 = .ok (.getfield 32, 3) := by decide +kernel
theorem qd_Z_learn_35 : decode qc_Z_learn 35 = .ok (.iload 6, 2) := by decide +kernel
theorem qd_Z_learn_37 : decode qc_Z_learn 37 = .ok (.iload 4, 2) := by decide +kernel
theorem qd_Z_learn_39 : decode qc_Z_learn 39 = .ok (.iconst 1, 1) := by decide +kernel
theorem qd_Z_learn_40 : decode qc_Z_learn 40 = .ok (.iadd, 1) := by decide +kernel
theorem qd_Z_learn_41 : decode qc_Z_learn 41 = .ok (.iastore, 1) := by decide +kernel
theorem qd_Z_learn_42 : decode qc_Z_learn 42 = .ok (.aload_n 0, 1) := by decide +kernel
theorem qd_Z_learn_43 : decode qc_Z_learn 43 = .ok (.getfield 35, 3) := by decide +kernel
theorem qd_Z_learn_46 : decode qc_Z_learn 46 = .ok (.iload 6, 2) := by decide +kernel
theorem qd_Z_learn_48 : decode qc_Z_learn 48 = .ok (.aload_n 0, 1) := by decide +kernel
theorem qd_Z_learn_49 : decode qc_Z_learn 49 = .ok (.getfield 112, 3) := by decide +kernel
theorem qd_Z_learn_52 : decode qc_Z_learn 52 = .ok (.iastore, 1) := by decide +kernel
theorem qd_Z_learn_53 : decode qc_Z_learn 53 = .ok (.aload_n 0, 1) := by decide +kernel
theorem qd_Z_learn_54 : decode qc_Z_learn 54 = .ok (.getfield 26, 3) := by decide +kernel
theorem qd_Z_learn_57 : decode qc_Z_learn 57 = .ok (.iload_n 1, 1) := by decide +kernel
theorem qd_Z_learn_58 : decode qc_Z_learn 58 = .ok (.dup2, 1) := by decide +kernel
theorem qd_Z_learn_59 : decode qc_Z_learn 59 = .ok (.iaload, 1) := by decide +kernel
theorem qd_Z_learn_60 : decode qc_Z_learn 60 = .ok (.aload_n 0, 1) := by decide +kernel
theorem qd_Z_learn_61 : decode qc_Z_learn 61 = .ok (.getfield 26, 3) := by decide +kernel
theorem qd_Z_learn_64 : decode qc_Z_learn 64 = .ok (.iload_n 1, 1) := by decide +kernel
theorem qd_Z_learn_65 : decode qc_Z_learn 65 = .ok (.iaload, 1) := by decide +kernel
theorem qd_Z_learn_66 : decode qc_Z_learn 66 = .ok (.iconst 4, 1) := by decide +kernel
theorem qd_Z_learn_67 : decode qc_Z_learn 67 = .ok (.if_icmp .ge 7, 3) := by decide +kernel
theorem qd_Z_learn_70 : decode qc_Z_learn 70 = .ok (.iconst 1, 1) := by decide +kernel
theorem qd_Z_learn_71 : decode qc_Z_learn 71 = .ok (.goto 4, 3) := by decide +kernel
theorem qd_Z_learn_74 : decode qc_Z_learn 74 = .ok (.iconst 0, 1) := by decide +kernel
theorem qd_Z_learn_75 : decode qc_Z_learn 75 = .ok (.iadd, 1) := by decide +kernel
theorem qd_Z_learn_76 : decode qc_Z_learn 76 = .ok (.iastore, 1) := by decide +kernel
theorem qd_Z_learn_77 : decode qc_Z_learn 77 = .ok (.aload_n 0, 1) := by decide +kernel
theorem qd_Z_learn_78 : decode qc_Z_learn 78 = .ok (.iload_n 1, 1) := by decide +kernel
theorem qd_Z_learn_79 : decode qc_Z_learn 79 = .ok (.iload_n 1, 1) := by decide +kernel
theorem qd_Z_learn_80 : decode qc_Z_learn 80 = .ok (.iconst 1, 1) := by decide +kernel
theorem qd_Z_learn_81 : decode qc_Z_learn 81 = .ok (.aload_n 0, 1) := by decide +kernel
theorem qd_Z_learn_82 : decode qc_Z_learn 82 = .ok (.getfield 32, 3) := by decide +kernel
theorem qd_Z_learn_85 : decode qc_Z_learn 85 = .ok (.iload 6, 2) := by decide +kernel
theorem qd_Z_learn_87 : decode qc_Z_learn 87 = .ok (.iaload, 1) := by decide +kernel
theorem qd_Z_learn_88 : decode qc_Z_learn 88 = .ok (.invokevirtual 115, 3) := by decide +kernel
theorem qd_Z_learn_91 : decode qc_Z_learn 91 = .ok (.return_, 1) := by decide +kernel
theorem qd_Z_learn_92 : decode qc_Z_learn 92 = .ok (.aload_n 0, 1) := by decide +kernel
theorem qd_Z_learn_93 : decode qc_Z_learn 93 = .ok (.getfield 29, 3) := by decide +kernel
theorem qd_Z_learn_96 : decode qc_Z_learn 96 = .ok (.iload 6, 2) := by decide +kernel
theorem qd_Z_learn_98 : decode qc_Z_learn 98 = .ok (.iaload, 1) := by decide +kernel
theorem qd_Z_learn_99 : decode qc_Z_learn 99 = .ok (.iload_n 3, 1) := by decide +kernel
theorem qd_Z_learn_100 : decode qc_Z_learn 100 = .ok (.if_icmp .ne 19, 3) := by decide +kernel
theorem qd_Z_learn_103 : decode qc_Z_learn 103 = .ok (.aload_n 0, 1) := by decide +kernel
theorem qd_Z_learn_104 : decode qc_Z_learn 104 = .ok (.getfield 32, 3) := by decide +kernel
theorem qd_Z_learn_107 : decode qc_Z_learn 107 = .ok (.iload 6, 2) := by decide +kernel
theorem qd_Z_learn_109 : decode qc_Z_learn 109 = .ok (.iaload, 1) := by decide +kernel
theorem qd_Z_learn_110 : decode qc_Z_learn 110 = .ok (.iload 4, 2) := by decide +kernel
theorem qd_Z_learn_112 : decode qc_Z_learn 112 = .ok (.if_icmp .ne 7, 3) := by decide +kernel
theorem qd_Z_learn_115 : decode qc_Z_learn 115 = .ok (.iconst 1, 1) := by decide +kernel
theorem qd_Z_learn_116 : decode qc_Z_learn 116 = .ok (.goto 4, 3) := by decide +kernel
theorem qd_Z_learn_119 : decode qc_Z_learn 119 = .ok (.iconst 0, 1) := by decide +kernel
theorem qd_Z_learn_120 : decode qc_Z_learn 120 = .ok (.istore 7, 2) := by decide +kernel
theorem qd_Z_learn_122 : decode qc_Z_learn 122 = .ok (.aload_n 0, 1) := by decide +kernel
theorem qd_Z_learn_123 : decode qc_Z_learn 123 = .ok (.getfield 29, 3) := by decide +kernel
theorem qd_Z_learn_126 : decode qc_Z_learn 126 = .ok (.iload 6, 2) := by decide +kernel
theorem qd_Z_learn_128 : decode qc_Z_learn 128 = .ok (.iaload, 1) := by decide +kernel
theorem qd_Z_learn_129 : decode qc_Z_learn 129 = .ok (.ifCond .eq 38, 3) := by decide +kernel
theorem qd_Z_learn_132 : decode qc_Z_learn 132 = .ok (.iload 4, 2) := by decide +kernel
theorem qd_Z_learn_134 : decode qc_Z_learn 134 = .ok (.aload_n 0, 1) := by decide +kernel
theorem qd_Z_learn_135 : decode qc_Z_learn 135 = .ok (.getfield 32, 3) := by decide +kernel
theorem qd_Z_learn_138 : decode qc_Z_learn 138 = .ok (.iload 6, 2) := by decide +kernel
theorem qd_Z_learn_140 : decode qc_Z_learn 140 = .ok (.iaload, 1) := by decide +kernel
theorem qd_Z_learn_141 : decode qc_Z_learn 141 = .ok (.if_icmp .gt 26, 3) := by decide +kernel
theorem qd_Z_learn_144 : decode qc_Z_learn 144 = .ok (.iload 4, 2) := by decide +kernel
theorem qd_Z_learn_146 : decode qc_Z_learn 146 = .ok (.aload_n 0, 1) := by decide +kernel
theorem qd_Z_learn_147 : decode qc_Z_learn 147 = .ok (.getfield 32, 3) := by decide +kernel
theorem qd_Z_learn_150 : decode qc_Z_learn 150 = .ok (.iload 6, 2) := by decide +kernel
theorem qd_Z_learn_152 : decode qc_Z_learn 152 = .ok (.iaload, 1) := by decide +kernel
theorem qd_Z_learn_153 : decode qc_Z_learn 153 = .ok (.if_icmp .ne 18, 3) := by decide +kernel
theorem qd_Z_learn_156 : decode qc_Z_learn 156 = .ok (.iload_n 3, 1) := by decide +kernel
theorem qd_Z_learn_157 : decode qc_Z_learn 157 = .ok (.aload_n 0, 1) := by decide +kernel
theorem qd_Z_learn_158 : decode qc_Z_learn 158 = .ok (.getfield 29, 3) := by decide +kernel
theorem qd_Z_learn_161 : decode qc_Z_learn 161 = .ok (.iload 6, 2) := by decide +kernel
theorem qd_Z_learn_163 : decode qc_Z_learn 163 = .ok (.iaload, 1) := by decide +kernel
theorem qd_Z_learn_164 : decode qc_Z_learn 164 = .ok (.if_icmp .le 7, 3) := by decide +kernel
theorem qd_Z_learn_167 : decode qc_Z_learn 167 = .ok (.iconst 1, 1) := by decide +kernel
theorem qd_Z_learn_168 : decode qc_Z_learn 168 = .ok (.goto 4, 3) := by decide +kernel
theorem qd_Z_learn_171 : decode qc_Z_learn 171 = .ok (.iconst 0, 1) := by decide +kernel
theorem qd_Z_learn_172 : decode qc_Z_learn 172 = .ok (.istore 8, 2) := by decide +kernel
theorem qd_Z_learn_174 : decode qc_Z_learn 174 = .ok (.iload 8, 2) := by decide +kernel
theorem qd_Z_learn_176 : decode qc_Z_learn 176 = .ok (.ifCond .eq 17, 3) := by decide +kernel
theorem qd_Z_learn_179 : decode qc_Z_learn 179 = .ok (.aload_n 0, 1) := by decide +kernel
theorem qd_Z_learn_180 : decode qc_Z_learn 180 = .ok (.iload_n 1, 1) := by decide +kernel
theorem qd_Z_learn_181 : decode qc_Z_learn 181 = .ok (.iload_n 2, 1) := by decide +kernel
theorem qd_Z_learn_182 : decode qc_Z_learn 182 = .ok (.iload_n 3, 1) := by decide +kernel
theorem qd_Z_learn_183 : decode qc_Z_learn 183 = .ok (.iload 4, 2) := by decide +kernel
theorem qd_Z_learn_185 : decode qc_Z_learn 185 = .ok (.iload 5, 2) := by decide +kernel
theorem qd_Z_learn_187 : decode qc_Z_learn 187 = .ok (.invokevirtual 119, 3) := by decide +kernel
theorem qd_Z_learn_190 : decode qc_Z_learn 190 = .ok (.goto 27, 3) := by decide +kernel
theorem qd_Z_learn_193 : decode qc_Z_learn 193 = .ok (.iload 7, 2) := by decide +kernel
theorem qd_Z_learn_195 : decode qc_Z_learn 195 = .ok (.ifCond .eq 22, 3) := by decide +kernel
theorem qd_Z_learn_198 : decode qc_Z_learn 198 = .ok (.iload_n 3, 1) := by decide +kernel
theorem qd_Z_learn_199 : decode qc_Z_learn 199 = .ok (.iconst 2, 1) := by decide +kernel
theorem qd_Z_learn_200 : decode qc_Z_learn 200 = .ok (.if_icmp .ne 17, 3) := by decide +kernel
theorem qd_Z_learn_203 : decode qc_Z_learn 203 = .ok (.aload_n 0, 1) := by decide +kernel
theorem qd_Z_learn_204 : decode qc_Z_learn 204 = .ok (.getfield 38, 3) := by decide +kernel
theorem qd_Z_learn_207 : decode qc_Z_learn 207 = .ok (.iload 6, 2) := by decide +kernel
theorem qd_Z_learn_209 : decode qc_Z_learn 209 = .ok (.dup2, 1) := by decide +kernel
theorem qd_Z_learn_210 : decode qc_Z_learn 210 = .ok (.iaload, 1) := by decide +kernel
theorem qd_Z_learn_211 : decode qc_Z_learn 211 = .ok (.iconst 1, 1) := by decide +kernel
theorem qd_Z_learn_212 : decode qc_Z_learn 212 = .ok (.iload 5, 2) := by decide +kernel
theorem qd_Z_learn_214 : decode qc_Z_learn 214 = .ok (.ishl, 1) := by decide +kernel
theorem qd_Z_learn_215 : decode qc_Z_learn 215 = .ok (.ior, 1) := by decide +kernel
theorem qd_Z_learn_216 : decode qc_Z_learn 216 = .ok (.iastore, 1) := by decide +kernel
theorem qd_Z_learn_217 : decode qc_Z_learn 217 = .ok (.return_, 1) := by decide +kernel
theorem qd_Z_acknowledged_0 : decode qc_Z_acknowledged 0 = .ok (.iload_n 1, 1) := by decide +kernel
theorem qd_Z_acknowledged_1 : decode qc_Z_acknowledged 1 = .ok (.iload_n 3, 1) := by decide +kernel
theorem qd_Z_acknowledged_2 : decode qc_Z_acknowledged 2 = .ok (.if_icmp .ne 43, 3) := by decide +kernel
theorem qd_Z_acknowledged_5 : decode qc_Z_acknowledged 5 = .ok (.aload_n 0, 1) := by decide +kernel
theorem qd_Z_acknowledged_6 : decode qc_Z_acknowledged 6 = .ok (.getfield 65, 3) := by decide +kernel
theorem qd_Z_acknowledged_9 : decode qc_Z_acknowledged 9 = .ok (.iload_n 1, 1) := by decide +kernel
theorem qd_Z_acknowledged_10 : decode qc_Z_acknowledged 10 = .ok (.aload_n 0, 1) := by decide +kernel
theorem qd_Z_acknowledged_11 : decode qc_Z_acknowledged 11 = .ok (.getfield 65, 3) := by decide +kernel
theorem qd_Z_acknowledged_14 : decode qc_Z_acknowledged 14 = .ok (.iload_n 1, 1) := by decide +kernel
theorem qd_Z_acknowledged_15 : decode qc_Z_acknowledged 15 = .ok (.baload, 1) := by decide +kernel
theorem qd_Z_acknowledged_16 : decode qc_Z_acknowledged 16 = .ok (.ifCond .ne 22, 3) := by decide +kernel
theorem qd_Z_acknowledged_19 : decode qc_Z_acknowledged 19 = .ok (.aload_n 0, 1) := by decide +kernel
theorem qd_Z_acknowledged_20 : decode qc_Z_acknowledged 20 = .ok (.getfield 56, 3) := by decide +kernel
theorem qd_Z_acknowledged_23 : decode qc_Z_acknowledged 23 = .ok (.iload_n 1, 1) := by decide +kernel
theorem qd_Z_acknowledged_24 : decode qc_Z_acknowledged 24 = .ok (.baload, 1) := by decide +kernel
theorem qd_Z_acknowledged_25 : decode qc_Z_acknowledged 25 = .ok (.ifCond .eq 17, 3) := by decide +kernel
theorem qd_Z_acknowledged_28 : decode qc_Z_acknowledged 28 = .ok (.aload_n 0, 1) := by decide +kernel
theorem qd_Z_acknowledged_29 : decode qc_Z_acknowledged 29 = .ok (.getfield 68, 3) := by decide +kernel
theorem qd_Z_acknowledged_32 : decode qc_Z_acknowledged 32 = .ok (.iload_n 1, 1) := by decide +kernel
theorem qd_Z_acknowledged_33 : decode qc_Z_acknowledged 33 = .ok (.iaload, 1) := by decide +kernel
theorem qd_Z_acknowledged_34 : decode qc_Z_acknowledged 34 = .ok (.iload_n 2, 1) := by decide +kernel
theorem qd_Z_acknowledged_35 : decode qc_Z_acknowledged 35 = .ok (.if_icmp .ne 7, 3) := by decide +kernel
theorem qd_Z_acknowledged_38 : decode qc_Z_acknowledged 38 = .ok (.iconst 1, 1) := by decide +kernel
theorem qd_Z_acknowledged_39 : decode qc_Z_acknowledged 39 = .ok (.goto 4, 3) := by decide +kernel
theorem qd_Z_acknowledged_42 : decode qc_Z_acknowledged 42 = .ok (.iconst 0, 1) := by decide +kernel
theorem qd_Z_acknowledged_43 : decode qc_Z_acknowledged 43 = .ok (.bastore, 1) := by decide +kernel
theorem qd_Z_acknowledged_44 : decode qc_Z_acknowledged 44 = .ok (.return_, 1) := by decide +kernel
theorem qd_Z_acknowledged_45 : decode qc_Z_acknowledged 45 = .ok (.aload_n 0, 1) := by decide +kernel
theorem qd_Z_acknowledged_46 : decode qc_Z_acknowledged 46 = .ok (.iload_n 1, 1) := by decide +kernel
theorem qd_Z_acknowledged_47 : decode qc_Z_acknowledged 47 = .ok (.iload_n 2, 1) := by decide +kernel
theorem qd_Z_acknowledged_48 : decode qc_Z_acknowledged 48 = .ok (.iload_n 3, 1) := by decide +kernel
theorem qd_Z_acknowledged_49 : decode qc_Z_acknowledged 49 = .ok (.iload 4, 2) := by decide +kernel
theorem qd_Z_acknowledged_51 : decode qc_Z_acknowledged 51 = .ok (.invokevirtual 133, 3) := by decide +kernel
theorem qd_Z_acknowledged_54 : decode qc_Z_acknowledged 54 = .ok (.istore 5, 2) := by decide +kernel
theorem qd_Z_acknowledged_56 : decode qc_Z_acknowledged 56 = .ok (.iload 5, 2) := by decide +kernel
theorem qd_Z_acknowledged_58 : decode qc_Z_acknowledged 58 = .ok (.ifCond .ge 4, 3) := by decide +kernel
theorem qd_Z_acknowledged_61 : decode qc_Z_acknowledged 61 = .ok (.return_, 1) := by decide +kernel
theorem qd_Z_acknowledged_62 : decode qc_Z_acknowledged 62 = .ok (.aload_n 0, 1) := by decide +kernel
theorem qd_Z_acknowledged_63 : decode qc_Z_acknowledged 63 = .ok (.iload_n 1, 1) := by decide +kernel
theorem qd_Z_acknowledged_64 : decode qc_Z_acknowledged 64 = .ok (.iload 5, 2) := by decide +kernel
theorem qd_Z_acknowledged_66 : decode qc_Z_acknowledged 66 = .ok (.invokevirtual 137, 3) := by decide +kernel
theorem qd_Z_acknowledged_69 : decode qc_Z_acknowledged 69 = .ok (.aload_n 0, 1) := by decide +kernel
theorem qd_Z_acknowledged_70 : decode qc_Z_acknowledged 70 = .ok (.iconst 2, 1) := by decide +kernel
theorem qd_Z_acknowledged_71 : decode qc_Z_acknowledged 71 = .ok (.iload_n 1, 1) := by decide +kernel
theorem qd_Z_acknowledged_72 : decode qc_Z_acknowledged 72 = .ok (.iload_n 3, 1) := by decide +kernel
theorem qd_Z_acknowledged_73 : decode qc_Z_acknowledged 73 = .ok (.iload_n 2, 1) := by decide +kernel
theorem qd_Z_acknowledged_74 : decode qc_Z_acknowledged 74 = .ok (.iload_n 3, 1) := by decide +kernel
theorem qd_Z_acknowledged_75 : decode qc_Z_acknowledged 75 = .ok (.iload 4, 2) := by decide +kernel
theorem qd_Z_acknowledged_77 : decode qc_Z_acknowledged 77 = .ok (.invokevirtual 123, 3) := by decide +kernel
theorem qd_Z_acknowledged_80 : decode qc_Z_acknowledged 80 = .ok (.return_, 1) := by decide +kernel
theorem qd_Z_relayOf_0 : decode qc_Z_relayOf 0 = .ok (.iconst (-1), 1) := by decide +kernel
theorem qd_Z_relayOf_1 : decode qc_Z_relayOf 1 = .ok (.istore 5, 2) := by decide +kernel
theorem qd_Z_relayOf_3 : decode qc_Z_relayOf 3 = .ok (.aload_n 0, 1) := by decide +kernel
theorem qd_Z_relayOf_4 : decode qc_Z_relayOf 4 = .ok (.getfield 50, 3) := by decide +kernel
theorem qd_Z_relayOf_7 : decode qc_Z_relayOf 7 = .ok (.iload_n 1, 1) := by decide +kernel
theorem qd_Z_relayOf_8 : decode qc_Z_relayOf 8 = .ok (.iaload, 1) := by decide +kernel
theorem qd_Z_relayOf_9 : decode qc_Z_relayOf 9 = .ok (.iconst 1, 1) := by decide +kernel
theorem qd_Z_relayOf_10 : decode qc_Z_relayOf 10 = .ok (.isub, 1) := by decide +kernel
theorem qd_Z_relayOf_11 : decode qc_Z_relayOf 11 = .ok (.istore 6, 2) := by decide +kernel
theorem qd_Z_relayOf_13 : decode qc_Z_relayOf 13 = .ok (.iload 6, 2) := by decide +kernel
theorem qd_Z_relayOf_15 : decode qc_Z_relayOf 15 = .ok (.ifCond .lt 67, 3) := by decide +kernel
theorem qd_Z_relayOf_18 : decode qc_Z_relayOf 18 = .ok (.bipush 16, 2) := by decide +kernel
theorem qd_Z_relayOf_20 : decode qc_Z_relayOf 20 = .ok (.iload_n 1, 1) := by decide +kernel
theorem qd_Z_relayOf_21 : decode qc_Z_relayOf 21 = .ok (.imul, 1) := by decide +kernel
theorem qd_Z_relayOf_22 : decode qc_Z_relayOf 22 = .ok (.iconst 4, 1) := by decide +kernel
theorem qd_Z_relayOf_23 : decode qc_Z_relayOf 23 = .ok (.iload 6, 2) := by decide +kernel
theorem qd_Z_relayOf_25 : decode qc_Z_relayOf 25 = .ok (.imul, 1) := by decide +kernel
theorem qd_Z_relayOf_26 : decode qc_Z_relayOf 26 = .ok (.iadd, 1) := by decide +kernel
theorem qd_Z_relayOf_27 : decode qc_Z_relayOf 27 = .ok (.istore 7, 2) := by decide +kernel
theorem qd_Z_relayOf_29 : decode qc_Z_relayOf 29 = .ok (.aload_n 0, 1) := by decide +kernel
theorem qd_Z_relayOf_30 : decode qc_Z_relayOf 30 = .ok (.getfield 53, 3) := by decide +kernel
theorem qd_Z_relayOf_33 : decode qc_Z_relayOf 33 = .ok (.iload 7, 2) := by decide +kernel
theorem qd_Z_relayOf_35 : decode qc_Z_relayOf 35 = .ok (.iaload, 1) := by decide +kernel
theorem qd_Z_relayOf_36 : decode qc_Z_relayOf 36 = .ok (.iload_n 2, 1) := by decide +kernel
theorem qd_Z_relayOf_37 : decode qc_Z_relayOf 37 = .ok (.if_icmp .ne 35, 3) := by decide +kernel
theorem qd_Z_relayOf_40 : decode qc_Z_relayOf 40 = .ok (.aload_n 0, 1) := by decide +kernel
theorem qd_Z_relayOf_41 : decode qc_Z_relayOf 41 = .ok (.getfield 53, 3) := by decide +kernel
theorem qd_Z_relayOf_44 : decode qc_Z_relayOf 44 = .ok (.iload 7, 2) := by decide +kernel
theorem qd_Z_relayOf_46 : decode qc_Z_relayOf 46 = .ok (.iconst 1, 1) := by decide +kernel
theorem qd_Z_relayOf_47 : decode qc_Z_relayOf 47 = .ok (.iadd, 1) := by decide +kernel
theorem qd_Z_relayOf_48 : decode qc_Z_relayOf 48 = .ok (.iaload, 1) := by decide +kernel
theorem qd_Z_relayOf_49 : decode qc_Z_relayOf 49 = .ok (.iload_n 3, 1) := by decide +kernel
theorem qd_Z_relayOf_50 : decode qc_Z_relayOf 50 = .ok (.if_icmp .ne 22, 3) := by decide +kernel
theorem qd_Z_relayOf_53 : decode qc_Z_relayOf 53 = .ok (.aload_n 0, 1) := by decide +kernel
theorem qd_Z_relayOf_54 : decode qc_Z_relayOf 54 = .ok (.getfield 53, 3) := by decide +kernel
theorem qd_Z_relayOf_57 : decode qc_Z_relayOf 57 = .ok (.iload 7, 2) := by decide +kernel
theorem qd_Z_relayOf_59 : decode qc_Z_relayOf 59 = .ok (.iconst 2, 1) := by decide +kernel
theorem qd_Z_relayOf_60 : decode qc_Z_relayOf 60 = .ok (.iadd, 1) := by decide +kernel
theorem qd_Z_relayOf_61 : decode qc_Z_relayOf 61 = .ok (.iaload, 1) := by decide +kernel
theorem qd_Z_relayOf_62 : decode qc_Z_relayOf 62 = .ok (.iload 4, 2) := by decide +kernel
theorem qd_Z_relayOf_64 : decode qc_Z_relayOf 64 = .ok (.if_icmp .ne 8, 3) := by decide +kernel
theorem qd_Z_relayOf_67 : decode qc_Z_relayOf 67 = .ok (.iload 6, 2) := by decide +kernel
theorem qd_Z_relayOf_69 : decode qc_Z_relayOf 69 = .ok (.goto 5, 3) := by decide +kernel
theorem qd_Z_relayOf_72 : decode qc_Z_relayOf 72 = .ok (.iload 5, 2) := by decide +kernel
theorem qd_Z_relayOf_74 : decode qc_Z_relayOf 74 = .ok (.istore 5, 2) := by decide +kernel
theorem qd_Z_relayOf_76 : decode qc_Z_relayOf 76 = .ok (.iinc 6 (-1), 3) := by decide +kernel
theorem qd_Z_relayOf_79 : decode qc_Z_relayOf 79 = .ok (.goto (-66), 3) := by decide +kernel
theorem qd_Z_relayOf_82 : decode qc_Z_relayOf 82 = .ok (.iload 5, 2) := by decide +kernel
theorem qd_Z_relayOf_84 : decode qc_Z_relayOf 84 = .ok (.ireturn, 1) := by decide +kernel
theorem qd_Z_removeRelay_0 : decode qc_Z_removeRelay 0 = .ok (.aload_n 0, 1) := by decide +kernel
theorem qd_Z_removeRelay_1 : decode qc_Z_removeRelay 1 = .ok (.getfield 50, 3) := by decide +kernel
theorem qd_Z_removeRelay_4 : decode qc_Z_removeRelay 4 = .ok (.iload_n 1, 1) := by decide +kernel
theorem qd_Z_removeRelay_5 : decode qc_Z_removeRelay 5 = .ok (.dup2, 1) := by decide +kernel
theorem qd_Z_removeRelay_6 : decode qc_Z_removeRelay 6 = .ok (.iaload, 1) := by decide +kernel
theorem qd_Z_removeRelay_7 : decode qc_Z_removeRelay 7 = .ok (.iconst 1, 1) := by decide +kernel
theorem qd_Z_removeRelay_8 : decode qc_Z_removeRelay 8 = .ok (.isub, 1) := by decide +kernel
theorem qd_Z_removeRelay_9 : decode qc_Z_removeRelay 9 = .ok (.iastore, 1) := by decide +kernel
theorem qd_Z_removeRelay_10 : decode qc_Z_removeRelay 10 = .ok (.bipush 16, 2) := by decide +kernel
theorem qd_Z_removeRelay_12 : decode qc_Z_removeRelay 12 = .ok (.iload_n 1, 1) := by decide +kernel
theorem qd_Z_removeRelay_13 : decode qc_Z_removeRelay 13 = .ok (.imul, 1) := by decide +kernel
theorem qd_Z_removeRelay_14 : decode qc_Z_removeRelay 14 = .ok (.iconst 4, 1) := by decide +kernel
theorem qd_Z_removeRelay_15 : decode qc_Z_removeRelay 15 = .ok (.iload_n 2, 1) := by decide +kernel
theorem qd_Z_removeRelay_16 : decode qc_Z_removeRelay 16 = .ok (.imul, 1) := by decide +kernel
theorem qd_Z_removeRelay_17 : decode qc_Z_removeRelay 17 = .ok (.iadd, 1) := by decide +kernel
theorem qd_Z_removeRelay_18 : decode qc_Z_removeRelay 18 = .ok (.istore_n 3, 1) := by decide +kernel
theorem qd_Z_removeRelay_19 : decode qc_Z_removeRelay 19 = .ok (.iload_n 3, 1) := by decide +kernel
theorem qd_Z_removeRelay_20 : decode qc_Z_removeRelay 20 = .ok (.bipush 16, 2) := by decide +kernel
theorem qd_Z_removeRelay_22 : decode qc_Z_removeRelay 22 = .ok (.iload_n 1, 1) := by decide +kernel
theorem qd_Z_removeRelay_23 : decode qc_Z_removeRelay 23 = .ok (.imul, 1) := by decide +kernel
theorem qd_Z_removeRelay_24 : decode qc_Z_removeRelay 24 = .ok (.iconst 4, 1) := by decide +kernel
theorem qd_Z_removeRelay_25 : decode qc_Z_removeRelay 25 = .ok (.aload_n 0, 1) := by decide +kernel
theorem qd_Z_removeRelay_26 : decode qc_Z_removeRelay 26 = .ok (.getfield 50, 3) := by decide +kernel
theorem qd_Z_removeRelay_29 : decode qc_Z_removeRelay 29 = .ok (.iload_n 1, 1) := by decide +kernel
theorem qd_Z_removeRelay_30 : decode qc_Z_removeRelay 30 = .ok (.iaload, 1) := by decide +kernel
theorem qd_Z_removeRelay_31 : decode qc_Z_removeRelay 31 = .ok (.imul, 1) := by decide +kernel
theorem qd_Z_removeRelay_32 : decode qc_Z_removeRelay 32 = .ok (.iadd, 1) := by decide +kernel
theorem qd_Z_removeRelay_33 : decode qc_Z_removeRelay 33 = .ok (.if_icmp .ge 23, 3) := by decide +kernel
theorem qd_Z_removeRelay_36 : decode qc_Z_removeRelay 36 = .ok (.aload_n 0, 1) := by decide +kernel
theorem qd_Z_removeRelay_37 : decode qc_Z_removeRelay 37 = .ok (.getfield 53, 3) := by decide +kernel
theorem qd_Z_removeRelay_40 : decode qc_Z_removeRelay 40 = .ok (.iload_n 3, 1) := by decide +kernel
theorem qd_Z_removeRelay_41 : decode qc_Z_removeRelay 41 = .ok (.aload_n 0, 1) := by decide +kernel
theorem qd_Z_removeRelay_42 : decode qc_Z_removeRelay 42 = .ok (.getfield 53, 3) := by decide +kernel
theorem qd_Z_removeRelay_45 : decode qc_Z_removeRelay 45 = .ok (.iload_n 3, 1) := by decide +kernel
theorem qd_Z_removeRelay_46 : decode qc_Z_removeRelay 46 = .ok (.iconst 4, 1) := by decide +kernel
theorem qd_Z_removeRelay_47 : decode qc_Z_removeRelay 47 = .ok (.iadd, 1) := by decide +kernel
theorem qd_Z_removeRelay_48 : decode qc_Z_removeRelay 48 = .ok (.iaload, 1) := by decide +kernel
theorem qd_Z_removeRelay_49 : decode qc_Z_removeRelay 49 = .ok (.iastore, 1) := by decide +kernel
theorem qd_Z_removeRelay_50 : decode qc_Z_removeRelay 50 = .ok (.iinc 3 1, 3) := by decide +kernel
theorem qd_Z_removeRelay_53 : decode qc_Z_removeRelay 53 = .ok (.goto (-34), 3) := by decide +kernel
theorem qd_Z_removeRelay_56 : decode qc_Z_removeRelay 56 = .ok (.return_, 1) := by decide +kernel
theorem qd_Z_help_0 : decode qc_Z_help 0 = .ok (.aload_n 0, 1) := by decide +kernel
theorem qd_Z_help_1 : decode qc_Z_help 1 = .ok (.getfield 50, 3) := by decide +kernel
theorem qd_Z_help_4 : decode qc_Z_help 4 = .ok (.iload_n 1, 1) := by decide +kernel
theorem qd_Z_help_5 : decode qc_Z_help 5 = .ok (.iaload, 1) := by decide +kernel
theorem qd_Z_help_6 : decode qc_Z_help 6 = .ok (.iconst 4, 1) := by decide +kernel
theorem qd_Z_help_7 : decode qc_Z_help 7 = .ok (.if_icmp .ne 4, 3) := by decide +kernel
theorem qd_Z_help_10 : decode qc_Z_help 10 = .ok (.return_, 1) := by decide +kernel
theorem qd_Z_help_11 : decode qc_Z_help 11 = .ok (.bipush 16, 2) := by decide +kernel
theorem qd_Z_help_13 : decode qc_Z_help 13 = .ok (.iload_n 1, 1) := by decide +kernel
theorem qd_Z_help_14 : decode qc_Z_help 14 = .ok (.imul, 1) := by decide +kernel
theorem qd_Z_help_15 : decode qc_Z_help 15 = .ok (.iconst 4, 1) := by decide +kernel
theorem qd_Z_help_16 : decode qc_Z_help 16 = .ok (.aload_n 0, 1) := by decide +kernel
theorem qd_Z_help_17 : decode qc_Z_help 17 = .ok (.getfield 50, 3) := by decide +kernel
theorem qd_Z_help_20 : decode qc_Z_help 20 = .ok (.iload_n 1, 1) := by decide +kernel
theorem qd_Z_help_21 : decode qc_Z_help 21 = .ok (.iaload, 1) := by decide +kernel
theorem qd_Z_help_22 : decode qc_Z_help 22 = .ok (.imul, 1) := by decide +kernel
theorem qd_Z_help_23 : decode qc_Z_help 23 = .ok (.iadd, 1) := by decide +kernel
theorem qd_Z_help_24 : decode qc_Z_help 24 = .ok (.istore 5, 2) := by decide +kernel
theorem qd_Z_help_26 : decode qc_Z_help 26 = .ok (.aload_n 0, 1) := by decide +kernel
theorem qd_Z_help_27 : decode qc_Z_help 27 = .ok (.getfield 53, 3) := by decide +kernel
theorem qd_Z_help_30 : decode qc_Z_help 30 = .ok (.iload 5, 2) := by decide +kernel
theorem qd_Z_help_32 : decode qc_Z_help 32 = .ok (.iload_n 2, 1) := by decide +kernel
theorem qd_Z_help_33 : decode qc_Z_help 33 = .ok (.iastore, 1) := by decide +kernel
theorem qd_Z_help_34 : decode qc_Z_help 34 = .ok (.aload_n 0, 1) := by decide +kernel
theorem qd_Z_help_35 : decode qc_Z_help 35 = .ok (.getfield 53, 3) := by decide +kernel
theorem qd_Z_help_38 : decode qc_Z_help 38 = .ok (.iload 5, 2) := by decide +kernel
theorem qd_Z_help_40 : decode qc_Z_help 40 = .ok (.iconst 1, 1) := by decide +kernel
theorem qd_Z_help_41 : decode qc_Z_help 41 = .ok (.iadd, 1) := by decide +kernel
theorem qd_Z_help_42 : decode qc_Z_help 42 = .ok (.iload_n 3, 1) := by decide +kernel
theorem qd_Z_help_43 : decode qc_Z_help 43 = .ok (.iastore, 1) := by decide +kernel
theorem qd_Z_help_44 : decode qc_Z_help 44 = .ok (.aload_n 0, 1) := by decide +kernel
theorem qd_Z_help_45 : decode qc_Z_help 45 = .ok (.getfield 53, 3) := by decide +kernel
theorem qd_Z_help_48 : decode qc_Z_help 48 = .ok (.iload 5, 2) := by decide +kernel
theorem qd_Z_help_50 : decode qc_Z_help 50 = .ok (.iconst 2, 1) := by decide +kernel
theorem qd_Z_help_51 : decode qc_Z_help 51 = .ok (.iadd, 1) := by decide +kernel
theorem qd_Z_help_52 : decode qc_Z_help 52 = .ok (.iload 4, 2) := by decide +kernel
theorem qd_Z_help_54 : decode qc_Z_help 54 = .ok (.iastore, 1) := by decide +kernel
theorem qd_Z_help_55 : decode qc_Z_help 55 = .ok (.aload_n 0, 1) := by decide +kernel
theorem qd_Z_help_56 : decode qc_Z_help 56 = .ok (.getfield 53, 3) := by decide +kernel
theorem qd_Z_help_59 : decode qc_Z_help 59 = .ok (.iload 5, 2) := by decide +kernel
theorem qd_Z_help_61 : decode qc_Z_help 61 = .ok (.iconst 3, 1) := by decide +kernel
theorem qd_Z_help_62 : decode qc_Z_help 62 = .ok (.iadd, 1) := by decide +kernel
theorem qd_Z_help_63 : decode qc_Z_help 63 = .ok (.iconst 0, 1) := by decide +kernel
theorem qd_Z_help_64 : decode qc_Z_help 64 = .ok (.iastore, 1) := by decide +kernel
theorem qd_Z_help_65 : decode qc_Z_help 65 = .ok (.aload_n 0, 1) := by decide +kernel
theorem qd_Z_help_66 : decode qc_Z_help 66 = .ok (.getfield 50, 3) := by decide +kernel
theorem qd_Z_help_69 : decode qc_Z_help 69 = .ok (.iload_n 1, 1) := by decide +kernel
theorem qd_Z_help_70 : decode qc_Z_help 70 = .ok (.dup2, 1) := by decide +kernel
theorem qd_Z_help_71 : decode qc_Z_help 71 = .ok (.iaload, 1) := by decide +kernel
theorem qd_Z_help_72 : decode qc_Z_help 72 = .ok (.iconst 1, 1) := by decide +kernel
theorem qd_Z_help_73 : decode qc_Z_help 73 = .ok (.iadd, 1) := by decide +kernel
theorem qd_Z_help_74 : decode qc_Z_help 74 = .ok (.iastore, 1) := by decide +kernel
theorem qd_Z_help_75 : decode qc_Z_help 75 = .ok (.aload_n 0, 1) := by decide +kernel
theorem qd_Z_help_76 : decode qc_Z_help 76 = .ok (.iconst 1, 1) := by decide +kernel
theorem qd_Z_help_77 : decode qc_Z_help 77 = .ok (.iload_n 1, 1) := by decide +kernel
theorem qd_Z_help_78 : decode qc_Z_help 78 = .ok (.iload 4, 2) := by decide +kernel
theorem qd_Z_help_80 : decode qc_Z_help 80 = .ok (.iload_n 2, 1) := by decide +kernel
theorem qd_Z_help_81 : decode qc_Z_help 81 = .ok (.iload_n 3, 1) := by decide +kernel
theorem qd_Z_help_82 : decode qc_Z_help 82 = .ok (.iload 4, 2) := by decide +kernel
theorem qd_Z_help_84 : decode qc_Z_help 84 = .ok (.invokevirtual 123, 3) := by decide +kernel
theorem qd_Z_help_87 : decode qc_Z_help 87 = .ok (.return_, 1) := by decide +kernel
theorem qd_Z_time_0 : decode qc_Z_time 0 = .ok (.aload_n 0, 1) := by decide +kernel
theorem qd_Z_time_1 : decode qc_Z_time 1 = .ok (.iload_n 1, 1) := by decide +kernel
theorem qd_Z_time_2 : decode qc_Z_time 2 = .ok (.invokevirtual 166, 3) := by decide +kernel
theorem qd_Z_time_5 : decode qc_Z_time 5 = .ok (.aload_n 0, 1) := by decide +kernel
theorem qd_Z_time_6 : decode qc_Z_time 6 = .ok (.iload_n 1, 1) := by decide +kernel
theorem qd_Z_time_7 : decode qc_Z_time 7 = .ok (.invokevirtual 169, 3) := by decide +kernel
theorem qd_Z_time_10 : decode qc_Z_time 10 = .ok (.aload_n 0, 1) := by decide +kernel
theorem qd_Z_time_11 : decode qc_Z_time 11 = .ok (.iload_n 1, 1) := by decide +kernel
theorem qd_Z_time_12 : decode qc_Z_time 12 = .ok (.invokevirtual 172, 3) := by decide +kernel
theorem qd_Z_time_15 : decode qc_Z_time 15 = .ok (.aload_n 0, 1) := by decide +kernel
theorem qd_Z_time_16 : decode qc_Z_time 16 = .ok (.getfield 112, 3) := by decide +kernel
theorem qd_Z_time_19 : decode qc_Z_time 19 = .ok (.aload_n 0, 1) := by decide +kernel
theorem qd_Z_time_20 : decode qc_Z_time 20 = .ok (.getfield 23, 3) := by decide +kernel
theorem qd_Z_time_23 : decode qc_Z_time 23 = .ok (.iload_n 1, 1) := by decide +kernel
theorem qd_Z_time_24 : decode qc_Z_time 24 = .ok (.iaload, 1) := by decide +kernel
theorem qd_Z_time_25 : decode qc_Z_time 25 = .ok (.isub, 1) := by decide +kernel
theorem qd_Z_time_26 : decode qc_Z_time 26 = .ok (.bipush 20, 2) := by decide +kernel
theorem qd_Z_time_28 : decode qc_Z_time 28 = .ok (.irem, 1) := by decide +kernel
theorem qd_Z_time_29 : decode qc_Z_time 29 = .ok (.ifCond .eq 4, 3) := by decide +kernel
theorem qd_Z_time_32 : decode qc_Z_time 32 = .ok (.return_, 1) := by decide +kernel
theorem qd_Z_time_33 : decode qc_Z_time 33 = .ok (.aload_n 0, 1) := by decide +kernel
theorem qd_Z_time_34 : decode qc_Z_time 34 = .ok (.iload_n 1, 1) := by decide +kernel
theorem qd_Z_time_35 : decode qc_Z_time 35 = .ok (.aload_n 0, 1) := by decide +kernel
theorem qd_Z_time_36 : decode qc_Z_time 36 = .ok (.getfield 83, 3) := by decide +kernel
theorem qd_Z_time_39 : decode qc_Z_time 39 = .ok (.iload_n 1, 1) := by decide +kernel
theorem qd_Z_time_40 : decode qc_Z_time 40 = .ok (.iaload, 1) := by decide +kernel
theorem qd_Z_time_41 : decode qc_Z_time 41 = .ok (.iconst (-1), 1) := by decide +kernel
theorem qd_Z_time_42 : decode qc_Z_time 42 = .ok (.iconst 0, 1) := by decide +kernel
theorem qd_Z_time_43 : decode qc_Z_time 43 = .ok (.invokevirtual 153, 3) := by decide +kernel
theorem qd_Z_time_46 : decode qc_Z_time 46 = .ok (.istore_n 2, 1) := by decide +kernel
theorem qd_Z_time_47 : decode qc_Z_time 47 = .ok (.iload_n 2, 1) := by decide +kernel
theorem qd_Z_time_48 : decode qc_Z_time 48 = .ok (.ifCond .ge 4, 3) := by decide +kernel
theorem qd_Z_time_51 : decode qc_Z_time 51 = .ok (.return_, 1) := by decide +kernel
theorem qd_Z_time_52 : decode qc_Z_time 52 = .ok (.aload_n 0, 1) := by decide +kernel
theorem qd_Z_time_53 : decode qc_Z_time 53 = .ok (.getfield 83, 3) := by decide +kernel
theorem qd_Z_time_56 : decode qc_Z_time 56 = .ok (.iload_n 1, 1) := by decide +kernel
theorem qd_Z_time_57 : decode qc_Z_time 57 = .ok (.iload_n 2, 1) := by decide +kernel
theorem qd_Z_time_58 : decode qc_Z_time 58 = .ok (.iastore, 1) := by decide +kernel
theorem qd_Z_time_59 : decode qc_Z_time 59 = .ok (.aload_n 0, 1) := by decide +kernel
theorem qd_Z_time_60 : decode qc_Z_time 60 = .ok (.bipush 6, 2) := by decide +kernel
theorem qd_Z_time_62 : decode qc_Z_time 62 = .ok (.iload_n 1, 1) := by decide +kernel
theorem qd_Z_time_63 : decode qc_Z_time 63 = .ok (.iload_n 2, 1) := by decide +kernel
theorem qd_Z_time_64 : decode qc_Z_time 64 = .ok (.iconst 0, 1) := by decide +kernel
theorem qd_Z_time_65 : decode qc_Z_time 65 = .ok (.iconst 0, 1) := by decide +kernel
theorem qd_Z_time_66 : decode qc_Z_time 66 = .ok (.iconst 0, 1) := by decide +kernel
theorem qd_Z_time_67 : decode qc_Z_time 67 = .ok (.invokevirtual 123, 3) := by decide +kernel
theorem qd_Z_time_70 : decode qc_Z_time 70 = .ok (.return_, 1) := by decide +kernel
theorem qd_Z_ageRelays_0 : decode qc_Z_ageRelays 0 = .ok (.iconst 0, 1) := by decide +kernel
theorem qd_Z_ageRelays_1 : decode qc_Z_ageRelays 1 = .ok (.istore_n 2, 1) := by decide +kernel
theorem qd_Z_ageRelays_2 : decode qc_Z_ageRelays 2 = .ok (.iload_n 2, 1) := by decide +kernel
theorem qd_Z_ageRelays_3 : decode qc_Z_ageRelays 3 = .ok (.aload_n 0, 1) := by decide +kernel
theorem qd_Z_ageRelays_4 : decode qc_Z_ageRelays 4 = .ok (.getfield 50, 3) := by decide +kernel
theorem qd_Z_ageRelays_7 : decode qc_Z_ageRelays 7 = .ok (.iload_n 1, 1) := by decide +kernel
theorem qd_Z_ageRelays_8 : decode qc_Z_ageRelays 8 = .ok (.iaload, 1) := by decide +kernel
theorem qd_Z_ageRelays_9 : decode qc_Z_ageRelays 9 = .ok (.if_icmp .ge 28, 3) := by decide +kernel
theorem qd_Z_ageRelays_12 : decode qc_Z_ageRelays 12 = .ok (.aload_n 0, 1) := by decide +kernel
theorem qd_Z_ageRelays_13 : decode qc_Z_ageRelays 13 = .ok (.getfield 53, 3) := by decide +kernel
theorem qd_Z_ageRelays_16 : decode qc_Z_ageRelays 16 = .ok (.bipush 16, 2) := by decide +kernel
theorem qd_Z_ageRelays_18 : decode qc_Z_ageRelays 18 = .ok (.iload_n 1, 1) := by decide +kernel
theorem qd_Z_ageRelays_19 : decode qc_Z_ageRelays 19 = .ok (.imul, 1) := by decide +kernel
theorem qd_Z_ageRelays_20 : decode qc_Z_ageRelays 20 = .ok (.iconst 4, 1) := by decide +kernel
theorem qd_Z_ageRelays_21 : decode qc_Z_ageRelays 21 = .ok (.iload_n 2, 1) := by decide +kernel
theorem qd_Z_ageRelays_22 : decode qc_Z_ageRelays 22 = .ok (.imul, 1) := by decide +kernel
theorem qd_Z_ageRelays_23 : decode qc_Z_ageRelays 23 = .ok (.iadd, 1) := by decide +kernel
theorem qd_Z_ageRelays_24 : decode qc_Z_ageRelays 24 = .ok (.iconst 3, 1) := by decide +kernel
theorem qd_Z_ageRelays_25 : decode qc_Z_ageRelays 25 = .ok (.iadd, 1) := by decide +kernel
theorem qd_Z_ageRelays_26 : decode qc_Z_ageRelays 26 = .ok (.dup2, 1) := by decide +kernel
theorem qd_Z_ageRelays_27 : decode qc_Z_ageRelays 27 = .ok (.iaload, 1) := by decide +kernel
theorem qd_Z_ageRelays_28 : decode qc_Z_ageRelays 28 = .ok (.iconst 1, 1) := by decide +kernel
theorem qd_Z_ageRelays_29 : decode qc_Z_ageRelays 29 = .ok (.iadd, 1) := by decide +kernel
theorem qd_Z_ageRelays_30 : decode qc_Z_ageRelays 30 = .ok (.iastore, 1) := by decide +kernel
theorem qd_Z_ageRelays_31 : decode qc_Z_ageRelays 31 = .ok (.iinc 2 1, 3) := by decide +kernel
theorem qd_Z_ageRelays_34 : decode qc_Z_ageRelays 34 = .ok (.goto (-32), 3) := by decide +kernel
theorem qd_Z_ageRelays_37 : decode qc_Z_ageRelays 37 = .ok (.aload_n 0, 1) := by decide +kernel
theorem qd_Z_ageRelays_38 : decode qc_Z_ageRelays 38 = .ok (.getfield 50, 3) := by decide +kernel
theorem qd_Z_ageRelays_41 : decode qc_Z_ageRelays 41 = .ok (.iload_n 1, 1) := by decide +kernel
theorem qd_Z_ageRelays_42 : decode qc_Z_ageRelays 42 = .ok (.iaload, 1) := by decide +kernel
theorem qd_Z_ageRelays_43 : decode qc_Z_ageRelays 43 = .ok (.ifCond .le 73, 3) := by decide +kernel
theorem qd_Z_ageRelays_46 : decode qc_Z_ageRelays 46 = .ok (.aload_n 0, 1) := by decide +kernel
theorem qd_Z_ageRelays_47 : decode qc_Z_ageRelays 47 = .ok (.getfield 53, 3) := by decide +kernel
theorem qd_Z_ageRelays_50 : decode qc_Z_ageRelays 50 = .ok (.bipush 16, 2) := by decide +kernel
theorem qd_Z_ageRelays_52 : decode qc_Z_ageRelays 52 = .ok (.iload_n 1, 1) := by decide +kernel
theorem qd_Z_ageRelays_53 : decode qc_Z_ageRelays 53 = .ok (.imul, 1) := by decide +kernel
theorem qd_Z_ageRelays_54 : decode qc_Z_ageRelays 54 = .ok (.iconst 3, 1) := by decide +kernel
theorem qd_Z_ageRelays_55 : decode qc_Z_ageRelays 55 = .ok (.iadd, 1) := by decide +kernel
theorem qd_Z_ageRelays_56 : decode qc_Z_ageRelays 56 = .ok (.iaload, 1) := by decide +kernel
theorem qd_Z_ageRelays_57 : decode qc_Z_ageRelays 57 = .ok (.iconst 3, 1) := by decide +kernel
theorem qd_Z_ageRelays_58 : decode qc_Z_ageRelays 58 = .ok (.if_icmp .lt 58, 3) := by decide +kernel
theorem qd_Z_ageRelays_61 : decode qc_Z_ageRelays 61 = .ok (.aload_n 0, 1) := by decide +kernel
theorem qd_Z_ageRelays_62 : decode qc_Z_ageRelays 62 = .ok (.getfield 53, 3) := by decide +kernel
theorem qd_Z_ageRelays_65 : decode qc_Z_ageRelays 65 = .ok (.bipush 16, 2) := by decide +kernel
theorem qd_Z_ageRelays_67 : decode qc_Z_ageRelays 67 = .ok (.iload_n 1, 1) := by decide +kernel
theorem qd_Z_ageRelays_68 : decode qc_Z_ageRelays 68 = .ok (.imul, 1) := by decide +kernel
theorem qd_Z_ageRelays_69 : decode qc_Z_ageRelays 69 = .ok (.iaload, 1) := by decide +kernel
theorem qd_Z_ageRelays_70 : decode qc_Z_ageRelays 70 = .ok (.istore_n 2, 1) := by decide +kernel
theorem qd_Z_ageRelays_71 : decode qc_Z_ageRelays 71 = .ok (.aload_n 0, 1) := by decide +kernel
theorem qd_Z_ageRelays_72 : decode qc_Z_ageRelays 72 = .ok (.getfield 53, 3) := by decide +kernel
theorem qd_Z_ageRelays_75 : decode qc_Z_ageRelays 75 = .ok (.bipush 16, 2) := by decide +kernel
theorem qd_Z_ageRelays_77 : decode qc_Z_ageRelays 77 = .ok (.iload_n 1, 1) := by decide +kernel
theorem qd_Z_ageRelays_78 : decode qc_Z_ageRelays 78 = .ok (.imul, 1) := by decide +kernel
theorem qd_Z_ageRelays_79 : decode qc_Z_ageRelays 79 = .ok (.iconst 1, 1) := by decide +kernel
theorem qd_Z_ageRelays_80 : decode qc_Z_ageRelays 80 = .ok (.iadd, 1) := by decide +kernel
theorem qd_Z_ageRelays_81 : decode qc_Z_ageRelays 81 = .ok (.iaload, 1) := by decide +kernel
theorem qd_Z_ageRelays_82 : decode qc_Z_ageRelays 82 = .ok (.istore_n 3, 1) := by decide +kernel
theorem qd_Z_ageRelays_83 : decode qc_Z_ageRelays 83 = .ok (.aload_n 0, 1) := by decide +kernel
theorem qd_Z_ageRelays_84 : decode qc_Z_ageRelays 84 = .ok (.getfield 53, 3) := by decide +kernel
theorem qd_Z_ageRelays_87 : decode qc_Z_ageRelays 87 = .ok (.bipush 16, 2) := by decide +kernel
theorem qd_Z_ageRelays_89 : decode qc_Z_ageRelays 89 = .ok (.iload_n 1, 1) := by decide +kernel
theorem qd_Z_ageRelays_90 : decode qc_Z_ageRelays 90 = .ok (.imul, 1) := by decide +kernel
theorem qd_Z_ageRelays_91 : decode qc_Z_ageRelays 91 = .ok (.iconst 2, 1) := by decide +kernel
theorem qd_Z_ageRelays_92 : decode qc_Z_ageRelays 92 = .ok (.iadd, 1) := by decide +kernel
theorem qd_Z_ageRelays_93 : decode qc_Z_ageRelays 93 = .ok (.iaload, 1) := by decide +kernel
theorem qd_Z_ageRelays_94 : decode qc_Z_ageRelays 94 = .ok (.istore 4, 2) := by decide +kernel
theorem qd_Z_ageRelays_96 : decode qc_Z_ageRelays 96 = .ok (.aload_n 0, 1) := by decide +kernel
theorem qd_Z_ageRelays_97 : decode qc_Z_ageRelays 97 = .ok (.iload_n 1, 1) := by decide +kernel
theorem qd_Z_ageRelays_98 : decode qc_Z_ageRelays 98 = .ok (.iconst 0, 1) := by decide +kernel
theorem qd_Z_ageRelays_99 : decode qc_Z_ageRelays 99 = .ok (.invokevirtual 137, 3) := by decide +kernel
theorem qd_Z_ageRelays_102 : decode qc_Z_ageRelays 102 = .ok (.aload_n 0, 1) := by decide +kernel
theorem qd_Z_ageRelays_103 : decode qc_Z_ageRelays 103 = .ok (.iconst 4, 1) := by decide +kernel
theorem qd_Z_ageRelays_104 : decode qc_Z_ageRelays 104 = .ok (.iload_n 1, 1) := by decide +kernel
theorem qd_Z_ageRelays_105 : decode qc_Z_ageRelays 105 = .ok (.iload_n 3, 1) := by decide +kernel
theorem qd_Z_ageRelays_106 : decode qc_Z_ageRelays 106 = .ok (.iload_n 2, 1) := by decide +kernel
theorem qd_Z_ageRelays_107 : decode qc_Z_ageRelays 107 = .ok (.iload_n 3, 1) := by decide +kernel
theorem qd_Z_ageRelays_108 : decode qc_Z_ageRelays 108 = .ok (.iload 4, 2) := by decide +kernel
theorem qd_Z_ageRelays_110 : decode qc_Z_ageRelays 110 = .ok (.invokevirtual 123, 3) := by decide +kernel
theorem qd_Z_ageRelays_113 : decode qc_Z_ageRelays 113 = .ok (.goto (-76), 3) := by decide +kernel
theorem qd_Z_ageRelays_116 : decode qc_Z_ageRelays 116 = .ok (.return_, 1) := by decide +kernel
theorem qd_Z_expire_0 : decode qc_Z_expire 0 = .ok (.iconst 0, 1) := by decide +kernel
theorem qd_Z_expire_1 : decode qc_Z_expire 1 = .ok (.istore_n 2, 1) := by decide +kernel
theorem qd_Z_expire_2 : decode qc_Z_expire 2 = .ok (.iload_n 2, 1) := by decide +kernel
theorem qd_Z_expire_3 : decode qc_Z_expire 3 = .ok (.aload_n 0, 1) := by decide +kernel
theorem qd_Z_expire_4 : decode qc_Z_expire 4 = .ok (.getfield 86, 3) := by decide +kernel
theorem qd_Z_expire_7 : decode qc_Z_expire 7 = .ok (.if_icmp .ge 92, 3) := by decide +kernel
theorem qd_Z_expire_10 : decode qc_Z_expire 10 = .ok (.bipush 8, 2) := by decide +kernel
theorem qd_Z_expire_12 : decode qc_Z_expire 12 = .ok (.iload_n 1, 1) := by decide +kernel
theorem qd_Z_expire_13 : decode qc_Z_expire 13 = .ok (.imul, 1) := by decide +kernel
theorem qd_Z_expire_14 : decode qc_Z_expire 14 = .ok (.iload_n 2, 1) := by decide +kernel
theorem qd_Z_expire_15 : decode qc_Z_expire 15 = .ok (.iadd, 1) := by decide +kernel
theorem qd_Z_expire_16 : decode qc_Z_expire 16 = .ok (.istore_n 3, 1) := by decide +kernel
theorem qd_Z_expire_17 : decode qc_Z_expire 17 = .ok (.aload_n 0, 1) := by decide +kernel
theorem qd_Z_expire_18 : decode qc_Z_expire 18 = .ok (.getfield 38, 3) := by decide +kernel
theorem qd_Z_expire_21 : decode qc_Z_expire 21 = .ok (.iload_n 3, 1) := by decide +kernel
theorem qd_Z_expire_22 : decode qc_Z_expire 22 = .ok (.iaload, 1) := by decide +kernel
theorem qd_Z_expire_23 : decode qc_Z_expire 23 = .ok (.invokestatic 150, 3) := by decide +kernel
theorem qd_Z_expire_26 : decode qc_Z_expire 26 = .ok (.istore 4, 2) := by decide +kernel
theorem qd_Z_expire_28 : decode qc_Z_expire 28 = .ok (.iload 4, 2) := by decide +kernel
theorem qd_Z_expire_30 : decode qc_Z_expire 30 = .ok (.iconst 3, 1) := by decide +kernel
theorem qd_Z_expire_31 : decode qc_Z_expire 31 = .ok (.if_icmp .le 7, 3) := by decide +kernel
theorem qd_Z_expire_34 : decode qc_Z_expire 34 = .ok (.iconst 3, 1) := by decide +kernel
theorem qd_Z_expire_35 : decode qc_Z_expire 35 = .ok (.goto 5, 3) := by decide +kernel
theorem qd_Z_expire_38 : decode qc_Z_expire 38 = .ok (.iload 4, 2) := by decide +kernel
theorem qd_Z_expire_40 : decode qc_Z_expire 40 = .ok (.istore 4, 2) := by decide +kernel
theorem qd_Z_expire_42 : decode qc_Z_expire 42 = .ok (.iload_n 2, 1) := by decide +kernel
theorem qd_Z_expire_43 : decode qc_Z_expire 43 = .ok (.iload_n 1, 1) := by decide +kernel
theorem qd_Z_expire_44 : decode qc_Z_expire 44 = .ok (.if_icmp .eq 49, 3) := by decide +kernel
theorem qd_Z_expire_47 : decode qc_Z_expire 47 = .ok (.aload_n 0, 1) := by decide +kernel
theorem qd_Z_expire_48 : decode qc_Z_expire 48 = .ok (.getfield 29, 3) := by decide +kernel
theorem qd_Z_expire_51 : decode qc_Z_expire 51 = .ok (.iload_n 3, 1) := by decide +kernel
theorem qd_Z_expire_52 : decode qc_Z_expire 52 = .ok (.iaload, 1) := by decide +kernel
theorem qd_Z_expire_53 : decode qc_Z_expire 53 = .ok (.iconst 2, 1) := by decide +kernel
theorem qd_Z_expire_54 : decode qc_Z_expire 54 = .ok (.if_icmp .ne 39, 3) := by decide +kernel
theorem qd_Z_expire_57 : decode qc_Z_expire 57 = .ok (.aload_n 0, 1) := by decide +kernel
theorem qd_Z_expire_58 : decode qc_Z_expire 58 = .ok (.getfield 112, 3) := by decide +kernel
theorem qd_Z_expire_61 : decode qc_Z_expire 61 = .ok (.aload_n 0, 1) := by decide +kernel
theorem qd_Z_expire_62 : decode qc_Z_expire 62 = .ok (.getfield 35, 3) := by decide +kernel
theorem qd_Z_expire_65 : decode qc_Z_expire 65 = .ok (.iload_n 3, 1) := by decide +kernel
theorem qd_Z_expire_66 : decode qc_Z_expire 66 = .ok (.iaload, 1) := by decide +kernel
theorem qd_Z_expire_67 : decode qc_Z_expire 67 = .ok (.isub, 1) := by decide +kernel
theorem qd_Z_expire_68 : decode qc_Z_expire 68 = .ok (.bipush 24, 2) := by decide +kernel
theorem qd_Z_expire_70 : decode qc_Z_expire 70 = .ok (.bipush 6, 2) := by decide +kernel
theorem qd_Z_expire_72 : decode qc_Z_expire 72 = .ok (.iload 4, 2) := by decide +kernel
theorem qd_Z_expire_74 : decode qc_Z_expire 74 = .ok (.imul, 1) := by decide +kernel
theorem qd_Z_expire_75 : decode qc_Z_expire 75 = .ok (.isub, 1) := by decide +kernel
theorem qd_Z_expire_76 : decode qc_Z_expire 76 = .ok (.if_icmp .lt 17, 3) := by decide +kernel
theorem qd_Z_expire_79 : decode qc_Z_expire 79 = .ok (.aload_n 0, 1) := by decide +kernel
theorem qd_Z_expire_80 : decode qc_Z_expire 80 = .ok (.iload_n 1, 1) := by decide +kernel
theorem qd_Z_expire_81 : decode qc_Z_expire 81 = .ok (.iload_n 2, 1) := by decide +kernel
theorem qd_Z_expire_82 : decode qc_Z_expire 82 = .ok (.iconst 3, 1) := by decide +kernel
theorem qd_Z_expire_83 : decode qc_Z_expire 83 = .ok (.aload_n 0, 1) := by decide +kernel
theorem qd_Z_expire_84 : decode qc_Z_expire 84 = .ok (.getfield 32, 3) := by decide +kernel
theorem qd_Z_expire_87 : decode qc_Z_expire 87 = .ok (.iload_n 3, 1) := by decide +kernel
theorem qd_Z_expire_88 : decode qc_Z_expire 88 = .ok (.iaload, 1) := by decide +kernel
theorem qd_Z_expire_89 : decode qc_Z_expire 89 = .ok (.iload_n 1, 1) := by decide +kernel
theorem qd_Z_expire_90 : decode qc_Z_expire 90 = .ok (.invokevirtual 119, 3) := by decide +kernel
theorem qd_Z_expire_93 : decode qc_Z_expire 93 = .ok (.iinc 2 1, 3) := by decide +kernel
theorem qd_Z_expire_96 : decode qc_Z_expire 96 = .ok (.goto (-94), 3) := by decide +kernel
theorem qd_Z_expire_99 : decode qc_Z_expire 99 = .ok (.return_, 1) := by decide +kernel
theorem qd_Z_count_0 : decode qc_Z_count 0 = .ok (.iconst 0, 1) := by decide +kernel
theorem qd_Z_count_1 : decode qc_Z_count 1 = .ok (.istore_n 1, 1) := by decide +kernel
theorem qd_Z_count_2 : decode qc_Z_count 2 = .ok (.iconst 0, 1) := by decide +kernel
theorem qd_Z_count_3 : decode qc_Z_count 3 = .ok (.istore_n 2, 1) := by decide +kernel
theorem qd_Z_count_4 : decode qc_Z_count 4 = .ok (.iload_n 2, 1) := by decide +kernel
theorem qd_Z_count_5 : decode qc_Z_count 5 = .ok (.bipush 8, 2) := by decide +kernel
theorem qd_Z_count_7 : decode qc_Z_count 7 = .ok (.if_icmp .ge 17, 3) := by decide +kernel
theorem qd_Z_count_10 : decode qc_Z_count 10 = .ok (.iload_n 1, 1) := by decide +kernel
theorem qd_Z_count_11 : decode qc_Z_count 11 = .ok (.iload_n 0, 1) := by decide +kernel
theorem qd_Z_count_12 : decode qc_Z_count 12 = .ok (.iload_n 2, 1) := by decide +kernel
theorem qd_Z_count_13 : decode qc_Z_count 13 = .ok (.ishr, 1) := by decide +kernel
theorem qd_Z_count_14 : decode qc_Z_count 14 = .ok (.iconst 1, 1) := by decide +kernel
theorem qd_Z_count_15 : decode qc_Z_count 15 = .ok (.iand, 1) := by decide +kernel
theorem qd_Z_count_16 : decode qc_Z_count 16 = .ok (.iadd, 1) := by decide +kernel
theorem qd_Z_count_17 : decode qc_Z_count 17 = .ok (.istore_n 1, 1) := by decide +kernel
theorem qd_Z_count_18 : decode qc_Z_count 18 = .ok (.iinc 2 1, 3) := by decide +kernel
theorem qd_Z_count_21 : decode qc_Z_count 21 = .ok (.goto (-17), 3) := by decide +kernel
theorem qd_Z_count_24 : decode qc_Z_count 24 = .ok (.iload_n 1, 1) := by decide +kernel
theorem qd_Z_count_25 : decode qc_Z_count 25 = .ok (.ireturn, 1) := by decide +kernel
theorem qd_Z_probe_0 : decode qc_Z_probe 0 = .ok (.aload_n 0, 1) := by decide +kernel
theorem qd_Z_probe_1 : decode qc_Z_probe 1 = .ok (.getfield 56, 3) := by decide +kernel
theorem qd_Z_probe_4 : decode qc_Z_probe 4 = .ok (.iload_n 1, 1) := by decide +kernel
theorem qd_Z_probe_5 : decode qc_Z_probe 5 = .ok (.baload, 1) := by decide +kernel
theorem qd_Z_probe_6 : decode qc_Z_probe 6 = .ok (.ifCond .ne 28, 3) := by decide +kernel
theorem qd_Z_probe_9 : decode qc_Z_probe 9 = .ok (.aload_n 0, 1) := by decide +kernel
theorem qd_Z_probe_10 : decode qc_Z_probe 10 = .ok (.getfield 71, 3) := by decide +kernel
theorem qd_Z_probe_13 : decode qc_Z_probe 13 = .ok (.iload_n 1, 1) := by decide +kernel
theorem qd_Z_probe_14 : decode qc_Z_probe 14 = .ok (.dup2, 1) := by decide +kernel
theorem qd_Z_probe_15 : decode qc_Z_probe 15 = .ok (.iaload, 1) := by decide +kernel
theorem qd_Z_probe_16 : decode qc_Z_probe 16 = .ok (.iconst 1, 1) := by decide +kernel
theorem qd_Z_probe_17 : decode qc_Z_probe 17 = .ok (.isub, 1) := by decide +kernel
theorem qd_Z_probe_18 : decode qc_Z_probe 18 = .ok (.iastore, 1) := by decide +kernel
theorem qd_Z_probe_19 : decode qc_Z_probe 19 = .ok (.aload_n 0, 1) := by decide +kernel
theorem qd_Z_probe_20 : decode qc_Z_probe 20 = .ok (.getfield 71, 3) := by decide +kernel
theorem qd_Z_probe_23 : decode qc_Z_probe 23 = .ok (.iload_n 1, 1) := by decide +kernel
theorem qd_Z_probe_24 : decode qc_Z_probe 24 = .ok (.iaload, 1) := by decide +kernel
theorem qd_Z_probe_25 : decode qc_Z_probe 25 = .ok (.ifCond .ne 8, 3) := by decide +kernel
theorem qd_Z_probe_28 : decode qc_Z_probe 28 = .ok (.aload_n 0, 1) := by decide +kernel
theorem qd_Z_probe_29 : decode qc_Z_probe 29 = .ok (.iload_n 1, 1) := by decide +kernel
theorem qd_Z_probe_30 : decode qc_Z_probe 30 = .ok (.invokevirtual 157, 3) := by decide +kernel
theorem qd_Z_probe_33 : decode qc_Z_probe 33 = .ok (.return_, 1) := by decide +kernel
theorem qd_Z_probe_34 : decode qc_Z_probe 34 = .ok (.aload_n 0, 1) := by decide +kernel
theorem qd_Z_probe_35 : decode qc_Z_probe 35 = .ok (.getfield 62, 3) := by decide +kernel
theorem qd_Z_probe_38 : decode qc_Z_probe 38 = .ok (.iload_n 1, 1) := by decide +kernel
theorem qd_Z_probe_39 : decode qc_Z_probe 39 = .ok (.dup2, 1) := by decide +kernel
theorem qd_Z_probe_40 : decode qc_Z_probe 40 = .ok (.iaload, 1) := by decide +kernel
theorem qd_Z_probe_41 : decode qc_Z_probe 41 = .ok (.iconst 1, 1) := by decide +kernel
theorem qd_Z_probe_42 : decode qc_Z_probe 42 = .ok (.iadd, 1) := by decide +kernel
theorem qd_Z_probe_43 : decode qc_Z_probe 43 = .ok (.iastore, 1) := by decide +kernel
theorem qd_Z_probe_44 : decode qc_Z_probe 44 = .ok (.aload_n 0, 1) := by decide +kernel
theorem qd_Z_probe_45 : decode qc_Z_probe 45 = .ok (.getfield 62, 3) := by decide +kernel
theorem qd_Z_probe_48 : decode qc_Z_probe 48 = .ok (.iload_n 1, 1) := by decide +kernel
theorem qd_Z_probe_49 : decode qc_Z_probe 49 = .ok (.iaload, 1) := by decide +kernel
theorem qd_Z_probe_50 : decode qc_Z_probe 50 = .ok (.iconst 3, 1) := by decide +kernel
theorem qd_Z_probe_51 : decode qc_Z_probe 51 = .ok (.if_icmp .ne 17, 3) := by decide +kernel
theorem qd_Z_probe_54 : decode qc_Z_probe 54 = .ok (.aload_n 0, 1) := by decide +kernel
theorem qd_Z_probe_55 : decode qc_Z_probe 55 = .ok (.getfield 65, 3) := by decide +kernel
theorem qd_Z_probe_58 : decode qc_Z_probe 58 = .ok (.iload_n 1, 1) := by decide +kernel
theorem qd_Z_probe_59 : decode qc_Z_probe 59 = .ok (.baload, 1) := by decide +kernel
theorem qd_Z_probe_60 : decode qc_Z_probe 60 = .ok (.ifCond .ne 8, 3) := by decide +kernel
theorem qd_Z_probe_63 : decode qc_Z_probe 63 = .ok (.aload_n 0, 1) := by decide +kernel
theorem qd_Z_probe_64 : decode qc_Z_probe 64 = .ok (.iload_n 1, 1) := by decide +kernel
theorem qd_Z_probe_65 : decode qc_Z_probe 65 = .ok (.invokevirtual 160, 3) := by decide +kernel
theorem qd_Z_probe_68 : decode qc_Z_probe 68 = .ok (.aload_n 0, 1) := by decide +kernel
theorem qd_Z_probe_69 : decode qc_Z_probe 69 = .ok (.getfield 62, 3) := by decide +kernel
theorem qd_Z_probe_72 : decode qc_Z_probe 72 = .ok (.iload_n 1, 1) := by decide +kernel
theorem qd_Z_probe_73 : decode qc_Z_probe 73 = .ok (.iaload, 1) := by decide +kernel
theorem qd_Z_probe_74 : decode qc_Z_probe 74 = .ok (.bipush 8, 2) := by decide +kernel
theorem qd_Z_probe_76 : decode qc_Z_probe 76 = .ok (.if_icmp .ne 8, 3) := by decide +kernel
theorem qd_Z_probe_79 : decode qc_Z_probe 79 = .ok (.aload_n 0, 1) := by decide +kernel
theorem qd_Z_probe_80 : decode qc_Z_probe 80 = .ok (.iload_n 1, 1) := by decide +kernel
theorem qd_Z_probe_81 : decode qc_Z_probe 81 = .ok (.invokevirtual 163, 3) := by decide +kernel
theorem qd_Z_probe_84 : decode qc_Z_probe 84 = .ok (.return_, 1) := by decide +kernel
theorem qd_Z_begin_0 : decode qc_Z_begin 0 = .ok (.aload_n 0, 1) := by decide +kernel
theorem qd_Z_begin_1 : decode qc_Z_begin 1 = .ok (.iload_n 1, 1) := by decide +kernel
theorem qd_Z_begin_2 : decode qc_Z_begin 2 = .ok (.aload_n 0, 1) := by decide +kernel
theorem qd_Z_begin_3 : decode qc_Z_begin 3 = .ok (.getfield 80, 3) := by decide +kernel
theorem qd_Z_begin_6 : decode qc_Z_begin 6 = .ok (.iload_n 1, 1) := by decide +kernel
theorem qd_Z_begin_7 : decode qc_Z_begin 7 = .ok (.iaload, 1) := by decide +kernel
theorem qd_Z_begin_8 : decode qc_Z_begin 8 = .ok (.iconst (-1), 1) := by decide +kernel
theorem qd_Z_begin_9 : decode qc_Z_begin 9 = .ok (.iconst 1, 1) := by decide +kernel
theorem qd_Z_begin_10 : decode qc_Z_begin 10 = .ok (.invokevirtual 153, 3) := by decide +kernel
theorem qd_Z_begin_13 : decode qc_Z_begin 13 = .ok (.istore_n 2, 1) := by decide +kernel
theorem qd_Z_begin_14 : decode qc_Z_begin 14 = .ok (.iload_n 2, 1) := by decide +kernel
theorem qd_Z_begin_15 : decode qc_Z_begin 15 = .ok (.ifCond .ge 11, 3) := by decide +kernel
theorem qd_Z_begin_18 : decode qc_Z_begin 18 = .ok (.aload_n 0, 1) := by decide +kernel
theorem qd_Z_begin_19 : decode qc_Z_begin 19 = .ok (.getfield 71, 3) := by decide +kernel
theorem qd_Z_begin_22 : decode qc_Z_begin 22 = .ok (.iload_n 1, 1) := by decide +kernel
theorem qd_Z_begin_23 : decode qc_Z_begin 23 = .ok (.iconst 3, 1) := by decide +kernel
theorem qd_Z_begin_24 : decode qc_Z_begin 24 = .ok (.iastore, 1) := by decide +kernel
theorem qd_Z_begin_25 : decode qc_Z_begin 25 = .ok (.return_, 1) := by decide +kernel
theorem qd_Z_begin_26 : decode qc_Z_begin 26 = .ok (.aload_n 0, 1) := by decide +kernel
theorem qd_Z_begin_27 : decode qc_Z_begin 27 = .ok (.getfield 56, 3) := by decide +kernel
theorem qd_Z_begin_30 : decode qc_Z_begin 30 = .ok (.iload_n 1, 1) := by decide +kernel
theorem qd_Z_begin_31 : decode qc_Z_begin 31 = .ok (.iconst 1, 1) := by decide +kernel
theorem qd_Z_begin_32 : decode qc_Z_begin 32 = .ok (.bastore, 1) := by decide +kernel
theorem qd_Z_begin_33 : decode qc_Z_begin 33 = .ok (.aload_n 0, 1) := by decide +kernel
theorem qd_Z_begin_34 : decode qc_Z_begin 34 = .ok (.getfield 80, 3) := by decide +kernel
theorem qd_Z_begin_37 : decode qc_Z_begin 37 = .ok (.iload_n 1, 1) := by decide +kernel
theorem qd_Z_begin_38 : decode qc_Z_begin 38 = .ok (.iload_n 2, 1) := by decide +kernel
theorem qd_Z_begin_39 : decode qc_Z_begin 39 = .ok (.iastore, 1) := by decide +kernel
theorem qd_Z_begin_40 : decode qc_Z_begin 40 = .ok (.aload_n 0, 1) := by decide +kernel
theorem qd_Z_begin_41 : decode qc_Z_begin 41 = .ok (.getfield 59, 3) := by decide +kernel
theorem qd_Z_begin_44 : decode qc_Z_begin 44 = .ok (.iload_n 1, 1) := by decide +kernel
theorem qd_Z_begin_45 : decode qc_Z_begin 45 = .ok (.iload_n 2, 1) := by decide +kernel
theorem qd_Z_begin_46 : decode qc_Z_begin 46 = .ok (.iastore, 1) := by decide +kernel
theorem qd_Z_begin_47 : decode qc_Z_begin 47 = .ok (.aload_n 0, 1) := by decide +kernel
theorem qd_Z_begin_48 : decode qc_Z_begin 48 = .ok (.getfield 62, 3) := by decide +kernel
theorem qd_Z_begin_51 : decode qc_Z_begin 51 = .ok (.iload_n 1, 1) := by decide +kernel
theorem qd_Z_begin_52 : decode qc_Z_begin 52 = .ok (.iconst 0, 1) := by decide +kernel
theorem qd_Z_begin_53 : decode qc_Z_begin 53 = .ok (.iastore, 1) := by decide +kernel
theorem qd_Z_begin_54 : decode qc_Z_begin 54 = .ok (.aload_n 0, 1) := by decide +kernel
theorem qd_Z_begin_55 : decode qc_Z_begin 55 = .ok (.getfield 65, 3) := by decide +kernel
theorem qd_Z_begin_58 : decode qc_Z_begin 58 = .ok (.iload_n 1, 1) := by decide +kernel
theorem qd_Z_begin_59 : decode qc_Z_begin 59 = .ok (.iconst 0, 1) := by decide +kernel
theorem qd_Z_begin_60 : decode qc_Z_begin 60 = .ok (.bastore, 1) := by decide +kernel
theorem qd_Z_begin_61 : decode qc_Z_begin 61 = .ok (.aload_n 0, 1) := by decide +kernel
theorem qd_Z_begin_62 : decode qc_Z_begin 62 = .ok (.getfield 74, 3) := by decide +kernel
theorem qd_Z_begin_65 : decode qc_Z_begin 65 = .ok (.iload_n 1, 1) := by decide +kernel
theorem qd_Z_begin_66 : decode qc_Z_begin 66 = .ok (.iconst 0, 1) := by decide +kernel
theorem qd_Z_begin_67 : decode qc_Z_begin 67 = .ok (.iastore, 1) := by decide +kernel
theorem qd_Z_begin_68 : decode qc_Z_begin 68 = .ok (.aload_n 0, 1) := by decide +kernel
theorem qd_Z_begin_69 : decode qc_Z_begin 69 = .ok (.getfield 77, 3) := by decide +kernel
theorem qd_Z_begin_72 : decode qc_Z_begin 72 = .ok (.iload_n 1, 1) := by decide +kernel
theorem qd_Z_begin_73 : decode qc_Z_begin 73 = .ok (.iconst 0, 1) := by decide +kernel
theorem qd_Z_begin_74 : decode qc_Z_begin 74 = .ok (.iastore, 1) := by decide +kernel
theorem qd_Z_begin_75 : decode qc_Z_begin 75 = .ok (.aload_n 0, 1) := by decide +kernel
theorem qd_Z_begin_76 : decode qc_Z_begin 76 = .ok (.getfield 68, 3) := by decide +kernel
theorem qd_Z_begin_79 : decode qc_Z_begin 79 = .ok (.iload_n 1, 1) := by decide +kernel
theorem qd_Z_begin_80 : decode qc_Z_begin 80 = .ok (.dup2, 1) := by decide +kernel
theorem qd_Z_begin_81 : decode qc_Z_begin 81 = .ok (.iaload, 1) := by decide +kernel
theorem qd_Z_begin_82 : decode qc_Z_begin 82 = .ok (.iconst 1, 1) := by decide +kernel
theorem qd_Z_begin_83 : decode qc_Z_begin 83 = .ok (.iadd, 1) := by decide +kernel
theorem qd_Z_begin_84 : decode qc_Z_begin 84 = .ok (.iastore, 1) := by decide +kernel
theorem qd_Z_begin_85 : decode qc_Z_begin 85 = .ok (.aload_n 0, 1) := by decide +kernel
theorem qd_Z_begin_86 : decode qc_Z_begin 86 = .ok (.iconst 1, 1) := by decide +kernel
theorem qd_Z_begin_87 : decode qc_Z_begin 87 = .ok (.iload_n 1, 1) := by decide +kernel
theorem qd_Z_begin_88 : decode qc_Z_begin 88 = .ok (.iload_n 2, 1) := by decide +kernel
theorem qd_Z_begin_89 : decode qc_Z_begin 89 = .ok (.aload_n 0, 1) := by decide +kernel
theorem qd_Z_begin_90 : decode qc_Z_begin 90 = .ok (.getfield 68, 3) := by decide +kernel
theorem qd_Z_begin_93 : decode qc_Z_begin 93 = .ok (.iload_n 1, 1) := by decide +kernel
theorem qd_Z_begin_94 : decode qc_Z_begin 94 = .ok (.iaload, 1) := by decide +kernel
theorem qd_Z_begin_95 : decode qc_Z_begin 95 = .ok (.iload_n 1, 1) := by decide +kernel
theorem qd_Z_begin_96 : decode qc_Z_begin 96 = .ok (.iload_n 2, 1) := by decide +kernel
theorem qd_Z_begin_97 : decode qc_Z_begin 97 = .ok (.invokevirtual 123, 3) := by decide +kernel
theorem qd_Z_begin_100 : decode qc_Z_begin 100 = .ok (.return_, 1) := by decide +kernel
theorem qd_Z_nextOf_0 : decode qc_Z_nextOf 0 = .ok (.iconst 1, 1) := by decide +kernel
theorem qd_Z_nextOf_1 : decode qc_Z_nextOf 1 = .ok (.istore 5, 2) := by decide +kernel
theorem qd_Z_nextOf_3 : decode qc_Z_nextOf 3 = .ok (.iload 5, 2) := by decide +kernel
theorem qd_Z_nextOf_5 : decode qc_Z_nextOf 5 = .ok (.aload_n 0, 1) := by decide +kernel
theorem qd_Z_nextOf_6 : decode qc_Z_nextOf 6 = .ok (.getfield 86, 3) := by decide +kernel
theorem qd_Z_nextOf_9 : decode qc_Z_nextOf 9 = .ok (.if_icmp .gt 66, 3) := by decide +kernel
theorem qd_Z_nextOf_12 : decode qc_Z_nextOf 12 = .ok (.iload_n 2, 1) := by decide +kernel
theorem qd_Z_nextOf_13 : decode qc_Z_nextOf 13 = .ok (.iload 5, 2) := by decide +kernel
theorem qd_Z_nextOf_15 : decode qc_Z_nextOf 15 = .ok (.iadd, 1) := by decide +kernel
theorem qd_Z_nextOf_16 : decode qc_Z_nextOf 16 = .ok (.aload_n 0, 1) := by decide +kernel
theorem qd_Z_nextOf_17 : decode qc_Z_nextOf 17 = .ok (.getfield 86, 3) := by decide +kernel
theorem qd_Z_nextOf_20 : decode qc_Z_nextOf 20 = .ok (.irem, 1) := by decide +kernel
theorem qd_Z_nextOf_21 : decode qc_Z_nextOf 21 = .ok (.istore 6, 2) := by decide +kernel
theorem qd_Z_nextOf_23 : decode qc_Z_nextOf 23 = .ok (.aload_n 0, 1) := by decide +kernel
theorem qd_Z_nextOf_24 : decode qc_Z_nextOf 24 = .ok (.getfield 29, 3) := by decide +kernel
theorem qd_Z_nextOf_27 : decode qc_Z_nextOf 27 = .ok (.bipush 8, 2) := by decide +kernel
theorem qd_Z_nextOf_29 : decode qc_Z_nextOf 29 = .ok (.iload_n 1, 1) := by decide +kernel
theorem qd_Z_nextOf_30 : decode qc_Z_nextOf 30 = .ok (.imul, 1) := by decide +kernel
theorem qd_Z_nextOf_31 : decode qc_Z_nextOf 31 = .ok (.iload 6, 2) := by decide +kernel
theorem qd_Z_nextOf_33 : decode qc_Z_nextOf 33 = .ok (.iadd, 1) := by decide +kernel
theorem qd_Z_nextOf_34 : decode qc_Z_nextOf 34 = .ok (.iaload, 1) := by decide +kernel
theorem qd_Z_nextOf_35 : decode qc_Z_nextOf 35 = .ok (.istore 7, 2) := by decide +kernel
theorem qd_Z_nextOf_37 : decode qc_Z_nextOf 37 = .ok (.iload 6, 2) := by decide +kernel
theorem qd_Z_nextOf_39 : decode qc_Z_nextOf 39 = .ok (.iload_n 1, 1) := by decide +kernel
theorem qd_Z_nextOf_40 : decode qc_Z_nextOf 40 = .ok (.if_icmp .eq 29, 3) := by decide +kernel
theorem qd_Z_nextOf_43 : decode qc_Z_nextOf 43 = .ok (.iload 6, 2) := by decide +kernel
theorem qd_Z_nextOf_45 : decode qc_Z_nextOf 45 = .ok (.iload_n 3, 1) := by decide +kernel
theorem qd_Z_nextOf_46 : decode qc_Z_nextOf 46 = .ok (.if_icmp .eq 23, 3) := by decide +kernel
theorem qd_Z_nextOf_49 : decode qc_Z_nextOf 49 = .ok (.iload 7, 2) := by decide +kernel
theorem qd_Z_nextOf_51 : decode qc_Z_nextOf 51 = .ok (.iconst 1, 1) := by decide +kernel
theorem qd_Z_nextOf_52 : decode qc_Z_nextOf 52 = .ok (.if_icmp .eq 14, 3) := by decide +kernel
theorem qd_Z_nextOf_55 : decode qc_Z_nextOf 55 = .ok (.iload 4, 2) := by decide +kernel
theorem qd_Z_nextOf_57 : decode qc_Z_nextOf 57 = .ok (.ifCond .eq 12, 3) := by decide +kernel
theorem qd_Z_nextOf_60 : decode qc_Z_nextOf 60 = .ok (.iload 7, 2) := by decide +kernel
theorem qd_Z_nextOf_62 : decode qc_Z_nextOf 62 = .ok (.iconst 2, 1) := by decide +kernel
theorem qd_Z_nextOf_63 : decode qc_Z_nextOf 63 = .ok (.if_icmp .ne 6, 3) := by decide +kernel
theorem qd_Z_nextOf_66 : decode qc_Z_nextOf 66 = .ok (.iload 6, 2) := by decide +kernel
theorem qd_Z_nextOf_68 : decode qc_Z_nextOf 68 = .ok (.ireturn, 1) := by decide +kernel
theorem qd_Z_nextOf_69 : decode qc_Z_nextOf 69 = .ok (.iinc 5 1, 3) := by decide +kernel
theorem qd_Z_nextOf_72 : decode qc_Z_nextOf 72 = .ok (.goto (-69), 3) := by decide +kernel
theorem qd_Z_nextOf_75 : decode qc_Z_nextOf 75 = .ok (.iconst (-1), 1) := by decide +kernel
theorem qd_Z_nextOf_76 : decode qc_Z_nextOf 76 = .ok (.ireturn, 1) := by decide +kernel
theorem qd_Z_askOthers_0 : decode qc_Z_askOthers 0 = .ok (.aload_n 0, 1) := by decide +kernel
theorem qd_Z_askOthers_1 : decode qc_Z_askOthers 1 = .ok (.iload_n 1, 1) := by decide +kernel
theorem qd_Z_askOthers_2 : decode qc_Z_askOthers 2 = .ok (.aload_n 0, 1) := by decide +kernel
theorem qd_Z_askOthers_3 : decode qc_Z_askOthers 3 = .ok (.getfield 59, 3) := by decide +kernel
theorem qd_Z_askOthers_6 : decode qc_Z_askOthers 6 = .ok (.iload_n 1, 1) := by decide +kernel
theorem qd_Z_askOthers_7 : decode qc_Z_askOthers 7 = .ok (.iaload, 1) := by decide +kernel
theorem qd_Z_askOthers_8 : decode qc_Z_askOthers 8 = .ok (.aload_n 0, 1) := by decide +kernel
theorem qd_Z_askOthers_9 : decode qc_Z_askOthers 9 = .ok (.getfield 59, 3) := by decide +kernel
theorem qd_Z_askOthers_12 : decode qc_Z_askOthers 12 = .ok (.iload_n 1, 1) := by decide +kernel
theorem qd_Z_askOthers_13 : decode qc_Z_askOthers 13 = .ok (.iaload, 1) := by decide +kernel
theorem qd_Z_askOthers_14 : decode qc_Z_askOthers 14 = .ok (.iconst 0, 1) := by decide +kernel
theorem qd_Z_askOthers_15 : decode qc_Z_askOthers 15 = .ok (.invokevirtual 153, 3) := by decide +kernel
theorem qd_Z_askOthers_18 : decode qc_Z_askOthers 18 = .ok (.istore_n 2, 1) := by decide +kernel
theorem qd_Z_askOthers_19 : decode qc_Z_askOthers 19 = .ok (.iload_n 2, 1) := by decide +kernel
theorem qd_Z_askOthers_20 : decode qc_Z_askOthers 20 = .ok (.ifCond .ge 4, 3) := by decide +kernel
theorem qd_Z_askOthers_23 : decode qc_Z_askOthers 23 = .ok (.return_, 1) := by decide +kernel
theorem qd_Z_askOthers_24 : decode qc_Z_askOthers 24 = .ok (.aload_n 0, 1) := by decide +kernel
theorem qd_Z_askOthers_25 : decode qc_Z_askOthers 25 = .ok (.iload_n 1, 1) := by decide +kernel
theorem qd_Z_askOthers_26 : decode qc_Z_askOthers 26 = .ok (.iload_n 2, 1) := by decide +kernel
theorem qd_Z_askOthers_27 : decode qc_Z_askOthers 27 = .ok (.aload_n 0, 1) := by decide +kernel
theorem qd_Z_askOthers_28 : decode qc_Z_askOthers 28 = .ok (.getfield 59, 3) := by decide +kernel
theorem qd_Z_askOthers_31 : decode qc_Z_askOthers 31 = .ok (.iload_n 1, 1) := by decide +kernel
theorem qd_Z_askOthers_32 : decode qc_Z_askOthers 32 = .ok (.iaload, 1) := by decide +kernel
theorem qd_Z_askOthers_33 : decode qc_Z_askOthers 33 = .ok (.iconst 0, 1) := by decide +kernel
theorem qd_Z_askOthers_34 : decode qc_Z_askOthers 34 = .ok (.invokevirtual 153, 3) := by decide +kernel
theorem qd_Z_askOthers_37 : decode qc_Z_askOthers 37 = .ok (.istore_n 3, 1) := by decide +kernel
theorem qd_Z_askOthers_38 : decode qc_Z_askOthers 38 = .ok (.aload_n 0, 1) := by decide +kernel
theorem qd_Z_askOthers_39 : decode qc_Z_askOthers 39 = .ok (.getfield 74, 3) := by decide +kernel
theorem qd_Z_askOthers_42 : decode qc_Z_askOthers 42 = .ok (.iload_n 1, 1) := by decide +kernel
theorem qd_Z_askOthers_43 : decode qc_Z_askOthers 43 = .ok (.iload_n 3, 1) := by decide +kernel
theorem qd_Z_askOthers_44 : decode qc_Z_askOthers 44 = .ok (.iload_n 2, 1) := by decide +kernel
theorem qd_Z_askOthers_45 : decode qc_Z_askOthers 45 = .ok (.if_icmp .ne 7, 3) := by decide +kernel
theorem qd_Z_askOthers_48 : decode qc_Z_askOthers 48 = .ok (.iconst 1, 1) := by decide +kernel
theorem qd_Z_askOthers_49 : decode qc_Z_askOthers 49 = .ok (.goto 4, 3) := by decide +kernel
theorem qd_Z_askOthers_52 : decode qc_Z_askOthers 52 = .ok (.iconst 2, 1) := by decide +kernel
theorem qd_Z_askOthers_53 : decode qc_Z_askOthers 53 = .ok (.iastore, 1) := by decide +kernel
theorem qd_Z_askOthers_54 : decode qc_Z_askOthers 54 = .ok (.aload_n 0, 1) := by decide +kernel
theorem qd_Z_askOthers_55 : decode qc_Z_askOthers 55 = .ok (.iconst 3, 1) := by decide +kernel
theorem qd_Z_askOthers_56 : decode qc_Z_askOthers 56 = .ok (.iload_n 1, 1) := by decide +kernel
theorem qd_Z_askOthers_57 : decode qc_Z_askOthers 57 = .ok (.iload_n 2, 1) := by decide +kernel
theorem qd_Z_askOthers_58 : decode qc_Z_askOthers 58 = .ok (.aload_n 0, 1) := by decide +kernel
theorem qd_Z_askOthers_59 : decode qc_Z_askOthers 59 = .ok (.getfield 68, 3) := by decide +kernel
theorem qd_Z_askOthers_62 : decode qc_Z_askOthers 62 = .ok (.iload_n 1, 1) := by decide +kernel
theorem qd_Z_askOthers_63 : decode qc_Z_askOthers 63 = .ok (.iaload, 1) := by decide +kernel
theorem qd_Z_askOthers_64 : decode qc_Z_askOthers 64 = .ok (.iload_n 1, 1) := by decide +kernel
theorem qd_Z_askOthers_65 : decode qc_Z_askOthers 65 = .ok (.aload_n 0, 1) := by decide +kernel
theorem qd_Z_askOthers_66 : decode qc_Z_askOthers 66 = .ok (.getfield 59, 3) := by decide +kernel
theorem qd_Z_askOthers_69 : decode qc_Z_askOthers 69 = .ok (.iload_n 1, 1) := by decide +kernel
theorem qd_Z_askOthers_70 : decode qc_Z_askOthers 70 = .ok (.iaload, 1) := by decide +kernel
theorem qd_Z_askOthers_71 : decode qc_Z_askOthers 71 = .ok (.invokevirtual 123, 3) := by decide +kernel
theorem qd_Z_askOthers_74 : decode qc_Z_askOthers 74 = .ok (.iload_n 3, 1) := by decide +kernel
theorem qd_Z_askOthers_75 : decode qc_Z_askOthers 75 = .ok (.iload_n 2, 1) := by decide +kernel
theorem qd_Z_askOthers_76 : decode qc_Z_askOthers 76 = .ok (.if_icmp .eq 23, 3) := by decide +kernel
theorem qd_Z_askOthers_79 : decode qc_Z_askOthers 79 = .ok (.aload_n 0, 1) := by decide +kernel
theorem qd_Z_askOthers_80 : decode qc_Z_askOthers 80 = .ok (.iconst 3, 1) := by decide +kernel
theorem qd_Z_askOthers_81 : decode qc_Z_askOthers 81 = .ok (.iload_n 1, 1) := by decide +kernel
theorem qd_Z_askOthers_82 : decode qc_Z_askOthers 82 = .ok (.iload_n 3, 1) := by decide +kernel
theorem qd_Z_askOthers_83 : decode qc_Z_askOthers 83 = .ok (.aload_n 0, 1) := by decide +kernel
theorem qd_Z_askOthers_84 : decode qc_Z_askOthers 84 = .ok (.getfield 68, 3) := by decide +kernel
theorem qd_Z_askOthers_87 : decode qc_Z_askOthers 87 = .ok (.iload_n 1, 1) := by decide +kernel
theorem qd_Z_askOthers_88 : decode qc_Z_askOthers 88 = .ok (.iaload, 1) := by decide +kernel
theorem qd_Z_askOthers_89 : decode qc_Z_askOthers 89 = .ok (.iload_n 1, 1) := by decide +kernel
theorem qd_Z_askOthers_90 : decode qc_Z_askOthers 90 = .ok (.aload_n 0, 1) := by decide +kernel
theorem qd_Z_askOthers_91 : decode qc_Z_askOthers 91 = .ok (.getfield 59, 3) := by decide +kernel
theorem qd_Z_askOthers_94 : decode qc_Z_askOthers 94 = .ok (.iload_n 1, 1) := by decide +kernel
theorem qd_Z_askOthers_95 : decode qc_Z_askOthers 95 = .ok (.iaload, 1) := by decide +kernel
theorem qd_Z_askOthers_96 : decode qc_Z_askOthers 96 = .ok (.invokevirtual 123, 3) := by decide +kernel
theorem qd_Z_askOthers_99 : decode qc_Z_askOthers 99 = .ok (.return_, 1) := by decide +kernel
theorem qd_Z_end_0 : decode qc_Z_end 0 = .ok (.aload_n 0, 1) := by decide +kernel
theorem qd_Z_end_1 : decode qc_Z_end 1 = .ok (.getfield 59, 3) := by decide +kernel
theorem qd_Z_end_4 : decode qc_Z_end 4 = .ok (.iload_n 1, 1) := by decide +kernel
theorem qd_Z_end_5 : decode qc_Z_end 5 = .ok (.iaload, 1) := by decide +kernel
theorem qd_Z_end_6 : decode qc_Z_end 6 = .ok (.istore_n 2, 1) := by decide +kernel
theorem qd_Z_end_7 : decode qc_Z_end 7 = .ok (.aload_n 0, 1) := by decide +kernel
theorem qd_Z_end_8 : decode qc_Z_end 8 = .ok (.getfield 74, 3) := by decide +kernel
theorem qd_Z_end_11 : decode qc_Z_end 11 = .ok (.iload_n 1, 1) := by decide +kernel
theorem qd_Z_end_12 : decode qc_Z_end 12 = .ok (.iaload, 1) := by decide +kernel
theorem qd_Z_end_13 : decode qc_Z_end 13 = .ok (.ifCond .ne 7, 3) := by decide +kernel
theorem qd_Z_end_16 : decode qc_Z_end 16 = .ok (.iconst 1, 1) := by decide +kernel
theorem qd_Z_end_17 : decode qc_Z_end 17 = .ok (.goto 35, 3) := by decide +kernel
theorem qd_Z_end_20 : decode qc_Z_end 20 = .ok (.aload_n 0, 1) := by decide +kernel
theorem qd_Z_end_21 : decode qc_Z_end 21 = .ok (.getfield 74, 3) := by decide +kernel
theorem qd_Z_end_24 : decode qc_Z_end 24 = .ok (.iload_n 1, 1) := by decide +kernel
theorem qd_Z_end_25 : decode qc_Z_end 25 = .ok (.iaload, 1) := by decide +kernel
theorem qd_Z_end_26 : decode qc_Z_end 26 = .ok (.aload_n 0, 1) := by decide +kernel
theorem qd_Z_end_27 : decode qc_Z_end 27 = .ok (.getfield 77, 3) := by decide +kernel
theorem qd_Z_end_30 : decode qc_Z_end 30 = .ok (.iload_n 1, 1) := by decide +kernel
theorem qd_Z_end_31 : decode qc_Z_end 31 = .ok (.iaload, 1) := by decide +kernel
theorem qd_Z_end_32 : decode qc_Z_end 32 = .ok (.if_icmp .le 19, 3) := by decide +kernel
theorem qd_Z_end_35 : decode qc_Z_end 35 = .ok (.aload_n 0, 1) := by decide +kernel
theorem qd_Z_end_36 : decode qc_Z_end 36 = .ok (.getfield 74, 3) := by decide +kernel
theorem qd_Z_end_39 : decode qc_Z_end 39 = .ok (.iload_n 1, 1) := by decide +kernel
theorem qd_Z_end_40 : decode qc_Z_end 40 = .ok (.iaload, 1) := by decide +kernel
theorem qd_Z_end_41 : decode qc_Z_end 41 = .ok (.aload_n 0, 1) := by decide +kernel
theorem qd_Z_end_42 : decode qc_Z_end 42 = .ok (.getfield 77, 3) := by decide +kernel
theorem qd_Z_end_45 : decode qc_Z_end 45 = .ok (.iload_n 1, 1) := by decide +kernel
theorem qd_Z_end_46 : decode qc_Z_end 46 = .ok (.iaload, 1) := by decide +kernel
theorem qd_Z_end_47 : decode qc_Z_end 47 = .ok (.isub, 1) := by decide +kernel
theorem qd_Z_end_48 : decode qc_Z_end 48 = .ok (.goto 4, 3) := by decide +kernel
theorem qd_Z_end_51 : decode qc_Z_end 51 = .ok (.iconst 0, 1) := by decide +kernel
theorem qd_Z_end_52 : decode qc_Z_end 52 = .ok (.istore_n 3, 1) := by decide +kernel
theorem qd_Z_end_53 : decode qc_Z_end 53 = .ok (.aload_n 0, 1) := by decide +kernel
theorem qd_Z_end_54 : decode qc_Z_end 54 = .ok (.getfield 65, 3) := by decide +kernel
theorem qd_Z_end_57 : decode qc_Z_end 57 = .ok (.iload_n 1, 1) := by decide +kernel
theorem qd_Z_end_58 : decode qc_Z_end 58 = .ok (.baload, 1) := by decide +kernel
theorem qd_Z_end_59 : decode qc_Z_end 59 = .ok (.ifCond .eq 14, 3) := by decide +kernel
theorem qd_Z_end_62 : decode qc_Z_end 62 = .ok (.aload_n 0, 1) := by decide +kernel
theorem qd_Z_end_63 : decode qc_Z_end 63 = .ok (.getfield 26, 3) := by decide +kernel
theorem qd_Z_end_66 : decode qc_Z_end 66 = .ok (.iload_n 1, 1) := by decide +kernel
theorem qd_Z_end_67 : decode qc_Z_end 67 = .ok (.iaload, 1) := by decide +kernel
theorem qd_Z_end_68 : decode qc_Z_end 68 = .ok (.iconst 1, 1) := by decide +kernel
theorem qd_Z_end_69 : decode qc_Z_end 69 = .ok (.isub, 1) := by decide +kernel
theorem qd_Z_end_70 : decode qc_Z_end 70 = .ok (.goto 11, 3) := by decide +kernel
theorem qd_Z_end_73 : decode qc_Z_end 73 = .ok (.aload_n 0, 1) := by decide +kernel
theorem qd_Z_end_74 : decode qc_Z_end 74 = .ok (.getfield 26, 3) := by decide +kernel
theorem qd_Z_end_77 : decode qc_Z_end 77 = .ok (.iload_n 1, 1) := by decide +kernel
theorem qd_Z_end_78 : decode qc_Z_end 78 = .ok (.iaload, 1) := by decide +kernel
theorem qd_Z_end_79 : decode qc_Z_end 79 = .ok (.iload_n 3, 1) := by decide +kernel
theorem qd_Z_end_80 : decode qc_Z_end 80 = .ok (.iadd, 1) := by decide +kernel
theorem qd_Z_end_81 : decode qc_Z_end 81 = .ok (.istore 4, 2) := by decide +kernel
theorem qd_Z_end_83 : decode qc_Z_end 83 = .ok (.aload_n 0, 1) := by decide +kernel
theorem qd_Z_end_84 : decode qc_Z_end 84 = .ok (.getfield 26, 3) := by decide +kernel
theorem qd_Z_end_87 : decode qc_Z_end 87 = .ok (.iload_n 1, 1) := by decide +kernel
theorem qd_Z_end_88 : decode qc_Z_end 88 = .ok (.iload 4, 2) := by decide +kernel
theorem qd_Z_end_90 : decode qc_Z_end 90 = .ok (.ifCond .ge 7, 3) := by decide +kernel
theorem qd_Z_end_93 : decode qc_Z_end 93 = .ok (.iconst 0, 1) := by decide +kernel
theorem qd_Z_end_94 : decode qc_Z_end 94 = .ok (.goto 15, 3) := by decide +kernel
theorem qd_Z_end_97 : decode qc_Z_end 97 = .ok (.iload 4, 2) := by decide +kernel
theorem qd_Z_end_99 : decode qc_Z_end 99 = .ok (.iconst 4, 1) := by decide +kernel
theorem qd_Z_end_100 : decode qc_Z_end 100 = .ok (.if_icmp .le 7, 3) := by decide +kernel
theorem qd_Z_end_103 : decode qc_Z_end 103 = .ok (.iconst 4, 1) := by decide +kernel
theorem qd_Z_end_104 : decode qc_Z_end 104 = .ok (.goto 5, 3) := by decide +kernel
theorem qd_Z_end_107 : decode qc_Z_end 107 = .ok (.iload 4, 2) := by decide +kernel
theorem qd_Z_end_109 : decode qc_Z_end 109 = .ok (.iastore, 1) := by decide +kernel
theorem qd_Z_end_110 : decode qc_Z_end 110 = .ok (.aload_n 0, 1) := by decide +kernel
theorem qd_Z_end_111 : decode qc_Z_end 111 = .ok (.getfield 65, 3) := by decide +kernel
theorem qd_Z_end_114 : decode qc_Z_end 114 = .ok (.iload_n 1, 1) := by decide +kernel
theorem qd_Z_end_115 : decode qc_Z_end 115 = .ok (.baload, 1) := by decide +kernel
theorem qd_Z_end_116 : decode qc_Z_end 116 = .ok (.ifCond .ne 37, 3) := by decide +kernel
theorem qd_Z_end_119 : decode qc_Z_end 119 = .ok (.aload_n 0, 1) := by decide +kernel
theorem qd_Z_end_120 : decode qc_Z_end 120 = .ok (.getfield 29, 3) := by decide +kernel
theorem qd_Z_end_123 : decode qc_Z_end 123 = .ok (.bipush 8, 2) := by decide +kernel
theorem qd_Z_end_125 : decode qc_Z_end 125 = .ok (.iload_n 1, 1) := by decide +kernel
theorem qd_Z_end_126 : decode qc_Z_end 126 = .ok (.imul, 1) := by decide +kernel
theorem qd_Z_end_127 : decode qc_Z_end 127 = .ok (.iload_n 2, 1) := by decide +kernel
theorem qd_Z_end_128 : decode qc_Z_end 128 = .ok (.iadd, 1) := by decide +kernel
theorem qd_Z_end_129 : decode qc_Z_end 129 = .ok (.iaload, 1) := by decide +kernel
theorem qd_Z_end_130 : decode qc_Z_end 130 = .ok (.iconst 1, 1) := by decide +kernel
theorem qd_Z_end_131 : decode qc_Z_end 131 = .ok (.if_icmp .ne 22, 3) := by decide +kernel
theorem qd_Z_end_134 : decode qc_Z_end 134 = .ok (.aload_n 0, 1) := by decide +kernel
theorem qd_Z_end_135 : decode qc_Z_end 135 = .ok (.iload_n 1, 1) := by decide +kernel
theorem qd_Z_end_136 : decode qc_Z_end 136 = .ok (.iload_n 2, 1) := by decide +kernel
theorem qd_Z_end_137 : decode qc_Z_end 137 = .ok (.iconst 2, 1) := by decide +kernel
theorem qd_Z_end_138 : decode qc_Z_end 138 = .ok (.aload_n 0, 1) := by decide +kernel
theorem qd_Z_end_139 : decode qc_Z_end 139 = .ok (.getfield 32, 3) := by decide +kernel
theorem qd_Z_end_142 : decode qc_Z_end 142 = .ok (.bipush 8, 2) := by decide +kernel
theorem qd_Z_end_144 : decode qc_Z_end 144 = .ok (.iload_n 1, 1) := by decide +kernel
theorem qd_Z_end_145 : decode qc_Z_end 145 = .ok (.imul, 1) := by decide +kernel
theorem qd_Z_end_146 : decode qc_Z_end 146 = .ok (.iload_n 2, 1) := by decide +kernel
theorem qd_Z_end_147 : decode qc_Z_end 147 = .ok (.iadd, 1) := by decide +kernel
theorem qd_Z_end_148 : decode qc_Z_end 148 = .ok (.iaload, 1) := by decide +kernel
theorem qd_Z_end_149 : decode qc_Z_end 149 = .ok (.iload_n 1, 1) := by decide +kernel
theorem qd_Z_end_150 : decode qc_Z_end 150 = .ok (.invokevirtual 119, 3) := by decide +kernel
theorem qd_Z_end_153 : decode qc_Z_end 153 = .ok (.aload_n 0, 1) := by decide +kernel
theorem qd_Z_end_154 : decode qc_Z_end 154 = .ok (.getfield 56, 3) := by decide +kernel
theorem qd_Z_end_157 : decode qc_Z_end 157 = .ok (.iload_n 1, 1) := by decide +kernel
theorem qd_Z_end_158 : decode qc_Z_end 158 = .ok (.iconst 0, 1) := by decide +kernel
theorem qd_Z_end_159 : decode qc_Z_end 159 = .ok (.bastore, 1) := by decide +kernel
theorem qd_Z_end_160 : decode qc_Z_end 160 = .ok (.aload_n 0, 1) := by decide +kernel
theorem qd_Z_end_161 : decode qc_Z_end 161 = .ok (.getfield 71, 3) := by decide +kernel
theorem qd_Z_end_164 : decode qc_Z_end 164 = .ok (.iload_n 1, 1) := by decide +kernel
theorem qd_Z_end_165 : decode qc_Z_end 165 = .ok (.iconst 1, 1) := by decide +kernel
theorem qd_Z_end_166 : decode qc_Z_end 166 = .ok (.aload_n 0, 1) := by decide +kernel
theorem qd_Z_end_167 : decode qc_Z_end 167 = .ok (.getfield 26, 3) := by decide +kernel
theorem qd_Z_end_170 : decode qc_Z_end 170 = .ok (.iload_n 1, 1) := by decide +kernel
theorem qd_Z_end_171 : decode qc_Z_end 171 = .ok (.iaload, 1) := by decide +kernel
theorem qd_Z_end_172 : decode qc_Z_end 172 = .ok (.iadd, 1) := by decide +kernel
theorem qd_Z_end_173 : decode qc_Z_end 173 = .ok (.iastore, 1) := by decide +kernel
theorem qd_Z_end_174 : decode qc_Z_end 174 = .ok (.return_, 1) := by decide +kernel
theorem qd_Z_now_0 : decode qc_Z_now 0 = .ok (.aload_n 0, 1) := by decide +kernel
theorem qd_Z_now_1 : decode qc_Z_now 1 = .ok (.getfield 112, 3) := by decide +kernel
theorem qd_Z_now_4 : decode qc_Z_now 4 = .ok (.ireturn, 1) := by decide +kernel
theorem qd_Z_flight_0 : decode qc_Z_flight 0 = .ok (.aload_n 0, 1) := by decide +kernel
theorem qd_Z_flight_1 : decode qc_Z_flight 1 = .ok (.getfield 109, 3) := by decide +kernel
theorem qd_Z_flight_4 : decode qc_Z_flight 4 = .ok (.ireturn, 1) := by decide +kernel
theorem qd_Z_message_0 : decode qc_Z_message 0 = .ok (.iload_n 1, 1) := by decide +kernel
theorem qd_Z_message_1 : decode qc_Z_message 1 = .ok (.ifCond .lt 36, 3) := by decide +kernel
theorem qd_Z_message_4 : decode qc_Z_message 4 = .ok (.iload_n 1, 1) := by decide +kernel
theorem qd_Z_message_5 : decode qc_Z_message 5 = .ok (.aload_n 0, 1) := by decide +kernel
theorem qd_Z_message_6 : decode qc_Z_message 6 = .ok (.getfield 109, 3) := by decide +kernel
theorem qd_Z_message_9 : decode qc_Z_message 9 = .ok (.if_icmp .ge 28, 3) := by decide +kernel
theorem qd_Z_message_12 : decode qc_Z_message 12 = .ok (.iload_n 2, 1) := by decide +kernel
theorem qd_Z_message_13 : decode qc_Z_message 13 = .ok (.ifCond .lt 24, 3) := by decide +kernel
theorem qd_Z_message_16 : decode qc_Z_message 16 = .ok (.iload_n 2, 1) := by decide +kernel
theorem qd_Z_message_17 : decode qc_Z_message 17 = .ok (.bipush 7, 2) := by decide +kernel
theorem qd_Z_message_19 : decode qc_Z_message 19 = .ok (.iconst 3, 1) := by decide +kernel
theorem qd_Z_message_20 : decode qc_Z_message 20 = .ok (.aload_n 0, 1) := by decide +kernel
theorem qd_Z_message_21 : decode qc_Z_message 21 = .ok (.getfield 7, 3) := by decide +kernel
theorem qd_Z_message_24 : decode qc_Z_message 24 = .ok (.bipush 32, 2) := by decide +kernel
theorem qd_Z_message_26 : decode qc_Z_message 26 = .ok (.iload_n 1, 1) := by decide +kernel
theorem qd_Z_message_27 : decode qc_Z_message 27 = .ok (.imul, 1) := by decide +kernel
theorem qd_Z_message_28 : decode qc_Z_message 28 = .ok (.bipush 6, 2) := by decide +kernel
theorem qd_Z_message_30 : decode qc_Z_message 30 = .ok (.iadd, 1) := by decide +kernel
theorem qd_Z_message_31 : decode qc_Z_message 31 = .ok (.iaload, 1) := by decide +kernel
theorem qd_Z_message_32 : decode qc_Z_message 32 = .ok (.imul, 1) := by decide +kernel
theorem qd_Z_message_33 : decode qc_Z_message 33 = .ok (.iadd, 1) := by decide +kernel
theorem qd_Z_message_34 : decode qc_Z_message 34 = .ok (.if_icmp .lt 7, 3) := by decide +kernel
theorem qd_Z_message_37 : decode qc_Z_message 37 = .ok (.iconst 0, 1) := by decide +kernel
theorem qd_Z_message_38 : decode qc_Z_message 38 = .ok (.goto 14, 3) := by decide +kernel
theorem qd_Z_message_41 : decode qc_Z_message 41 = .ok (.aload_n 0, 1) := by decide +kernel
theorem qd_Z_message_42 : decode qc_Z_message 42 = .ok (.getfield 7, 3) := by decide +kernel
theorem qd_Z_message_45 : decode qc_Z_message 45 = .ok (.bipush 32, 2) := by decide +kernel
theorem qd_Z_message_47 : decode qc_Z_message 47 = .ok (.iload_n 1, 1) := by decide +kernel
theorem qd_Z_message_48 : decode qc_Z_message 48 = .ok (.imul, 1) := by decide +kernel
theorem qd_Z_message_49 : decode qc_Z_message 49 = .ok (.iload_n 2, 1) := by decide +kernel
theorem qd_Z_message_50 : decode qc_Z_message 50 = .ok (.iadd, 1) := by decide +kernel
theorem qd_Z_message_51 : decode qc_Z_message 51 = .ok (.iaload, 1) := by decide +kernel
theorem qd_Z_message_52 : decode qc_Z_message 52 = .ok (.ireturn, 1) := by decide +kernel
theorem qd_Z_view_0 : decode qc_Z_view 0 = .ok (.aload_n 0, 1) := by decide +kernel
theorem qd_Z_view_1 : decode qc_Z_view 1 = .ok (.iload_n 1, 1) := by decide +kernel
theorem qd_Z_view_2 : decode qc_Z_view 2 = .ok (.invokevirtual 127, 3) := by decide +kernel
theorem qd_Z_view_5 : decode qc_Z_view 5 = .ok (.ifCond .ne 5, 3) := by decide +kernel
theorem qd_Z_view_8 : decode qc_Z_view 8 = .ok (.iconst (-1), 1) := by decide +kernel
theorem qd_Z_view_9 : decode qc_Z_view 9 = .ok (.ireturn, 1) := by decide +kernel
theorem qd_Z_view_10 : decode qc_Z_view 10 = .ok (.bipush 8, 2) := by decide +kernel
theorem qd_Z_view_12 : decode qc_Z_view 12 = .ok (.iload_n 1, 1) := by decide +kernel
theorem qd_Z_view_13 : decode qc_Z_view 13 = .ok (.imul, 1) := by decide +kernel
theorem qd_Z_view_14 : decode qc_Z_view 14 = .ok (.iload_n 2, 1) := by decide +kernel
theorem qd_Z_view_15 : decode qc_Z_view 15 = .ok (.iadd, 1) := by decide +kernel
theorem qd_Z_view_16 : decode qc_Z_view 16 = .ok (.istore 4, 2) := by decide +kernel
theorem qd_Z_view_18 : decode qc_Z_view 18 = .ok (.aload_n 0, 1) := by decide +kernel
theorem qd_Z_view_19 : decode qc_Z_view 19 = .ok (.iload_n 2, 1) := by decide +kernel
theorem qd_Z_view_20 : decode qc_Z_view 20 = .ok (.invokevirtual 90, 3) := by decide +kernel
theorem qd_Z_view_23 : decode qc_Z_view 23 = .ok (.ifCond .eq 13, 3) := by decide +kernel
theorem qd_Z_view_26 : decode qc_Z_view 26 = .ok (.aload_n 0, 1) := by decide +kernel
theorem qd_Z_view_27 : decode qc_Z_view 27 = .ok (.getfield 29, 3) := by decide +kernel
theorem qd_Z_view_30 : decode qc_Z_view 30 = .ok (.iload 4, 2) := by decide +kernel
theorem qd_Z_view_32 : decode qc_Z_view 32 = .ok (.iaload, 1) := by decide +kernel
theorem qd_Z_view_33 : decode qc_Z_view 33 = .ok (.ifCond .ne 5, 3) := by decide +kernel
theorem qd_Z_view_36 : decode qc_Z_view 36 = .ok (.iconst 0, 1) := by decide +kernel
theorem qd_Z_view_37 : decode qc_Z_view 37 = .ok (.ireturn, 1) := by decide +kernel
theorem qd_Z_view_38 : decode qc_Z_view 38 = .ok (.iload_n 3, 1) := by decide +kernel
theorem qd_Z_view_39 : decode qc_Z_view 39 = .ok (.ifCond .ne 13, 3) := by decide +kernel
theorem qd_Z_view_42 : decode qc_Z_view 42 = .ok (.aload_n 0, 1) := by decide +kernel
theorem qd_Z_view_43 : decode qc_Z_view 43 = .ok (.getfield 29, 3) := by decide +kernel
theorem qd_Z_view_46 : decode qc_Z_view 46 = .ok (.iload 4, 2) := by decide +kernel
theorem qd_Z_view_48 : decode qc_Z_view 48 = .ok (.iaload, 1) := by decide +kernel
theorem qd_Z_view_49 : decode qc_Z_view 49 = .ok (.goto 52, 3) := by decide +kernel
theorem qd_Z_view_52 : decode qc_Z_view 52 = .ok (.iload_n 3, 1) := by decide +kernel
theorem qd_Z_view_53 : decode qc_Z_view 53 = .ok (.iconst 1, 1) := by decide +kernel
theorem qd_Z_view_54 : decode qc_Z_view 54 = .ok (.if_icmp .ne 13, 3) := by decide +kernel
theorem qd_Z_view_57 : decode qc_Z_view 57 = .ok (.aload_n 0, 1) := by decide +kernel
theorem qd_Z_view_58 : decode qc_Z_view 58 = .ok (.getfield 32, 3) := by decide +kernel
theorem qd_Z_view_61 : decode qc_Z_view 61 = .ok (.iload 4, 2) := by decide +kernel
theorem qd_Z_view_63 : decode qc_Z_view 63 = .ok (.iaload, 1) := by decide +kernel
theorem qd_Z_view_64 : decode qc_Z_view 64 = .ok (.goto 37, 3) := by decide +kernel
theorem qd_Z_view_67 : decode qc_Z_view 67 = .ok (.iload_n 3, 1) := by decide +kernel
theorem qd_Z_view_68 : decode qc_Z_view 68 = .ok (.iconst 2, 1) := by decide +kernel
theorem qd_Z_view_69 : decode qc_Z_view 69 = .ok (.if_icmp .ne 13, 3) := by decide +kernel
theorem qd_Z_view_72 : decode qc_Z_view 72 = .ok (.aload_n 0, 1) := by decide +kernel
theorem qd_Z_view_73 : decode qc_Z_view 73 = .ok (.getfield 35, 3) := by decide +kernel
theorem qd_Z_view_76 : decode qc_Z_view 76 = .ok (.iload 4, 2) := by decide +kernel
theorem qd_Z_view_78 : decode qc_Z_view 78 = .ok (.iaload, 1) := by decide +kernel
theorem qd_Z_view_79 : decode qc_Z_view 79 = .ok (.goto 22, 3) := by decide +kernel
theorem qd_Z_view_82 : decode qc_Z_view 82 = .ok (.iload_n 3, 1) := by decide +kernel
theorem qd_Z_view_83 : decode qc_Z_view 83 = .ok (.iconst 3, 1) := by decide +kernel
theorem qd_Z_view_84 : decode qc_Z_view 84 = .ok (.if_icmp .ne 16, 3) := by decide +kernel
theorem qd_Z_view_87 : decode qc_Z_view 87 = .ok (.aload_n 0, 1) := by decide +kernel
theorem qd_Z_view_88 : decode qc_Z_view 88 = .ok (.getfield 38, 3) := by decide +kernel
theorem qd_Z_view_91 : decode qc_Z_view 91 = .ok (.iload 4, 2) := by decide +kernel
theorem qd_Z_view_93 : decode qc_Z_view 93 = .ok (.iaload, 1) := by decide +kernel
theorem qd_Z_view_94 : decode qc_Z_view 94 = .ok (.invokestatic 150, 3) := by decide +kernel
theorem qd_Z_view_97 : decode qc_Z_view 97 = .ok (.goto 4, 3) := by decide +kernel
theorem qd_Z_view_100 : decode qc_Z_view 100 = .ok (.iconst 0, 1) := by decide +kernel
theorem qd_Z_view_101 : decode qc_Z_view 101 = .ok (.ireturn, 1) := by decide +kernel
theorem qd_Z_node_0 : decode qc_Z_node 0 = .ok (.aload_n 0, 1) := by decide +kernel
theorem qd_Z_node_1 : decode qc_Z_node 1 = .ok (.iload_n 1, 1) := by decide +kernel
theorem qd_Z_node_2 : decode qc_Z_node 2 = .ok (.invokevirtual 90, 3) := by decide +kernel
theorem qd_Z_node_5 : decode qc_Z_node 5 = .ok (.ifCond .eq 13, 3) := by decide +kernel
theorem qd_Z_node_8 : decode qc_Z_node 8 = .ok (.iload_n 2, 1) := by decide +kernel
theorem qd_Z_node_9 : decode qc_Z_node 9 = .ok (.ifCond .lt 9, 3) := by decide +kernel
theorem qd_Z_node_12 : decode qc_Z_node 12 = .ok (.iload_n 2, 1) := by decide +kernel
theorem qd_Z_node_13 : decode qc_Z_node 13 = .ok (.bipush 9, 2) := by decide +kernel
theorem qd_Z_node_15 : decode qc_Z_node 15 = .ok (.if_icmp .le 5, 3) := by decide +kernel
theorem qd_Z_node_18 : decode qc_Z_node 18 = .ok (.iconst (-1), 1) := by decide +kernel
theorem qd_Z_node_19 : decode qc_Z_node 19 = .ok (.ireturn, 1) := by decide +kernel
theorem qd_Z_node_20 : decode qc_Z_node 20 = .ok (.aload_n 0, 1) := by decide +kernel
theorem qd_Z_node_21 : decode qc_Z_node 21 = .ok (.getfield 20, 3) := by decide +kernel
theorem qd_Z_node_24 : decode qc_Z_node 24 = .ok (.iload_n 1, 1) := by decide +kernel
theorem qd_Z_node_25 : decode qc_Z_node 25 = .ok (.baload, 1) := by decide +kernel
theorem qd_Z_node_26 : decode qc_Z_node 26 = .ok (.ifCond .ne 5, 3) := by decide +kernel
theorem qd_Z_node_29 : decode qc_Z_node 29 = .ok (.iconst 0, 1) := by decide +kernel
theorem qd_Z_node_30 : decode qc_Z_node 30 = .ok (.ireturn, 1) := by decide +kernel
theorem qd_Z_node_31 : decode qc_Z_node 31 = .ok (.iload_n 2, 1) := by decide +kernel
theorem qd_Z_node_32 : decode qc_Z_node 32 = .ok (.tableswitch 155 0 8 #[52, 54, 64, 71, 91, 111, 135, 142, 149], 52) := by decide +kernel
theorem qd_Z_node_84 : decode qc_Z_node 84 = .ok (.iconst 1, 1) := by decide +kernel
theorem qd_Z_node_85 : decode qc_Z_node 85 = .ok (.ireturn, 1) := by decide +kernel
theorem qd_Z_node_86 : decode qc_Z_node 86 = .ok (.aload_n 0, 1) := by decide +kernel
theorem qd_Z_node_87 : decode qc_Z_node 87 = .ok (.getfield 32, 3) := by decide +kernel
theorem qd_Z_node_90 : decode qc_Z_node 90 = .ok (.bipush 9, 2) := by decide +kernel
theorem qd_Z_node_92 : decode qc_Z_node 92 = .ok (.iload_n 1, 1) := by decide +kernel
theorem qd_Z_node_93 : decode qc_Z_node 93 = .ok (.imul, 1) := by decide +kernel
theorem qd_Z_node_94 : decode qc_Z_node 94 = .ok (.iaload, 1) := by decide +kernel
theorem qd_Z_node_95 : decode qc_Z_node 95 = .ok (.ireturn, 1) := by decide +kernel
theorem qd_Z_node_96 : decode qc_Z_node 96 = .ok (.aload_n 0, 1) := by decide +kernel
theorem qd_Z_node_97 : decode qc_Z_node 97 = .ok (.getfield 26, 3) := by decide +kernel
theorem qd_Z_node_100 : decode qc_Z_node 100 = .ok (.iload_n 1, 1) := by decide +kernel
theorem qd_Z_node_101 : decode qc_Z_node 101 = .ok (.iaload, 1) := by decide +kernel
theorem qd_Z_node_102 : decode qc_Z_node 102 = .ok (.ireturn, 1) := by decide +kernel
theorem qd_Z_node_103 : decode qc_Z_node 103 = .ok (.aload_n 0, 1) := by decide +kernel
theorem qd_Z_node_104 : decode qc_Z_node 104 = .ok (.getfield 56, 3) := by decide +kernel
theorem qd_Z_node_107 : decode qc_Z_node 107 = .ok (.iload_n 1, 1) := by decide +kernel
theorem qd_Z_node_108 : decode qc_Z_node 108 = .ok (.baload, 1) := by decide +kernel
theorem qd_Z_node_109 : decode qc_Z_node 109 = .ok (.ifCond .eq 12, 3) := by decide +kernel
theorem qd_Z_node_112 : decode qc_Z_node 112 = .ok (.aload_n 0, 1) := by decide +kernel
theorem qd_Z_node_113 : decode qc_Z_node 113 = .ok (.getfield 59, 3) := by decide +kernel
theorem qd_Z_node_116 : decode qc_Z_node 116 = .ok (.iload_n 1, 1) := by decide +kernel
theorem qd_Z_node_117 : decode qc_Z_node 117 = .ok (.iaload, 1) := by decide +kernel
theorem qd_Z_node_118 : decode qc_Z_node 118 = .ok (.goto 4, 3) := by decide +kernel
theorem qd_Z_node_121 : decode qc_Z_node 121 = .ok (.iconst (-1), 1) := by decide +kernel
theorem qd_Z_node_122 : decode qc_Z_node 122 = .ok (.ireturn, 1) := by decide +kernel
theorem qd_Z_node_123 : decode qc_Z_node 123 = .ok (.aload_n 0, 1) := by decide +kernel
theorem qd_Z_node_124 : decode qc_Z_node 124 = .ok (.getfield 56, 3) := by decide +kernel
theorem qd_Z_node_127 : decode qc_Z_node 127 = .ok (.iload_n 1, 1) := by decide +kernel
theorem qd_Z_node_128 : decode qc_Z_node 128 = .ok (.baload, 1) := by decide +kernel
theorem qd_Z_node_129 : decode qc_Z_node 129 = .ok (.ifCond .eq 12, 3) := by decide +kernel
theorem qd_Z_node_132 : decode qc_Z_node 132 = .ok (.aload_n 0, 1) := by decide +kernel
theorem qd_Z_node_133 : decode qc_Z_node 133 = .ok (.getfield 62, 3) := by decide +kernel
theorem qd_Z_node_136 : decode qc_Z_node 136 = .ok (.iload_n 1, 1) := by decide +kernel
theorem qd_Z_node_137 : decode qc_Z_node 137 = .ok (.iaload, 1) := by decide +kernel
theorem qd_Z_node_138 : decode qc_Z_node 138 = .ok (.goto 4, 3) := by decide +kernel
theorem qd_Z_node_141 : decode qc_Z_node 141 = .ok (.iconst 0, 1) := by decide +kernel
theorem qd_Z_node_142 : decode qc_Z_node 142 = .ok (.ireturn, 1) := by decide +kernel
theorem qd_Z_node_143 : decode qc_Z_node 143 = .ok (.aload_n 0, 1) := by decide +kernel
theorem qd_Z_node_144 : decode qc_Z_node 144 = .ok (.getfield 56, 3) := by decide +kernel
theorem qd_Z_node_147 : decode qc_Z_node 147 = .ok (.iload_n 1, 1) := by decide +kernel
theorem qd_Z_node_148 : decode qc_Z_node 148 = .ok (.baload, 1) := by decide +kernel
theorem qd_Z_node_149 : decode qc_Z_node 149 = .ok (.ifCond .eq 16, 3) := by decide +kernel
theorem qd_Z_node_152 : decode qc_Z_node 152 = .ok (.aload_n 0, 1) := by decide +kernel
theorem qd_Z_node_153 : decode qc_Z_node 153 = .ok (.getfield 65, 3) := by decide +kernel
theorem qd_Z_node_156 : decode qc_Z_node 156 = .ok (.iload_n 1, 1) := by decide +kernel
theorem qd_Z_node_157 : decode qc_Z_node 157 = .ok (.baload, 1) := by decide +kernel
theorem qd_Z_node_158 : decode qc_Z_node 158 = .ok (.ifCond .eq 7, 3) := by decide +kernel
theorem qd_Z_node_161 : decode qc_Z_node 161 = .ok (.iconst 1, 1) := by decide +kernel
theorem qd_Z_node_162 : decode qc_Z_node 162 = .ok (.goto 4, 3) := by decide +kernel
theorem qd_Z_node_165 : decode qc_Z_node 165 = .ok (.iconst 0, 1) := by decide +kernel
theorem qd_Z_node_166 : decode qc_Z_node 166 = .ok (.ireturn, 1) := by decide +kernel
theorem qd_Z_node_167 : decode qc_Z_node 167 = .ok (.aload_n 0, 1) := by decide +kernel
theorem qd_Z_node_168 : decode qc_Z_node 168 = .ok (.getfield 68, 3) := by decide +kernel
theorem qd_Z_node_171 : decode qc_Z_node 171 = .ok (.iload_n 1, 1) := by decide +kernel
theorem qd_Z_node_172 : decode qc_Z_node 172 = .ok (.iaload, 1) := by decide +kernel
theorem qd_Z_node_173 : decode qc_Z_node 173 = .ok (.ireturn, 1) := by decide +kernel
theorem qd_Z_node_174 : decode qc_Z_node 174 = .ok (.aload_n 0, 1) := by decide +kernel
theorem qd_Z_node_175 : decode qc_Z_node 175 = .ok (.getfield 71, 3) := by decide +kernel
theorem qd_Z_node_178 : decode qc_Z_node 178 = .ok (.iload_n 1, 1) := by decide +kernel
theorem qd_Z_node_179 : decode qc_Z_node 179 = .ok (.iaload, 1) := by decide +kernel
theorem qd_Z_node_180 : decode qc_Z_node 180 = .ok (.ireturn, 1) := by decide +kernel
theorem qd_Z_node_181 : decode qc_Z_node 181 = .ok (.aload_n 0, 1) := by decide +kernel
theorem qd_Z_node_182 : decode qc_Z_node 182 = .ok (.iload_n 1, 1) := by decide +kernel
theorem qd_Z_node_183 : decode qc_Z_node 183 = .ok (.invokevirtual 182, 3) := by decide +kernel
theorem qd_Z_node_186 : decode qc_Z_node 186 = .ok (.ireturn, 1) := by decide +kernel
theorem qd_Z_node_187 : decode qc_Z_node 187 = .ok (.aload_n 0, 1) := by decide +kernel
theorem qd_Z_node_188 : decode qc_Z_node 188 = .ok (.getfield 50, 3) := by decide +kernel
theorem qd_Z_node_191 : decode qc_Z_node 191 = .ok (.iload_n 1, 1) := by decide +kernel
theorem qd_Z_node_192 : decode qc_Z_node 192 = .ok (.iaload, 1) := by decide +kernel
theorem qd_Z_node_193 : decode qc_Z_node 193 = .ok (.ireturn, 1) := by decide +kernel
theorem qd_Z_newsOf_0 : decode qc_Z_newsOf 0 = .ok (.iconst 0, 1) := by decide +kernel
theorem qd_Z_newsOf_1 : decode qc_Z_newsOf 1 = .ok (.istore_n 2, 1) := by decide +kernel
theorem qd_Z_newsOf_2 : decode qc_Z_newsOf 2 = .ok (.iconst 0, 1) := by decide +kernel
theorem qd_Z_newsOf_3 : decode qc_Z_newsOf 3 = .ok (.istore_n 3, 1) := by decide +kernel
theorem qd_Z_newsOf_4 : decode qc_Z_newsOf 4 = .ok (.iload_n 3, 1) := by decide +kernel
theorem qd_Z_newsOf_5 : decode qc_Z_newsOf 5 = .ok (.aload_n 0, 1) := by decide +kernel
theorem qd_Z_newsOf_6 : decode qc_Z_newsOf 6 = .ok (.getfield 86, 3) := by decide +kernel
theorem qd_Z_newsOf_9 : decode qc_Z_newsOf 9 = .ok (.if_icmp .ge 31, 3) := by decide +kernel
theorem qd_Z_newsOf_12 : decode qc_Z_newsOf 12 = .ok (.iload_n 2, 1) := by decide +kernel
theorem qd_Z_newsOf_13 : decode qc_Z_newsOf 13 = .ok (.aload_n 0, 1) := by decide +kernel
theorem qd_Z_newsOf_14 : decode qc_Z_newsOf 14 = .ok (.getfield 41, 3) := by decide +kernel
theorem qd_Z_newsOf_17 : decode qc_Z_newsOf 17 = .ok (.bipush 8, 2) := by decide +kernel
theorem qd_Z_newsOf_19 : decode qc_Z_newsOf 19 = .ok (.iload_n 1, 1) := by decide +kernel
theorem qd_Z_newsOf_20 : decode qc_Z_newsOf 20 = .ok (.imul, 1) := by decide +kernel
theorem qd_Z_newsOf_21 : decode qc_Z_newsOf 21 = .ok (.iload_n 3, 1) := by decide +kernel
theorem qd_Z_newsOf_22 : decode qc_Z_newsOf 22 = .ok (.iadd, 1) := by decide +kernel
theorem qd_Z_newsOf_23 : decode qc_Z_newsOf 23 = .ok (.iaload, 1) := by decide +kernel
theorem qd_Z_newsOf_24 : decode qc_Z_newsOf 24 = .ok (.ifCond .le 7, 3) := by decide +kernel
theorem qd_Z_newsOf_27 : decode qc_Z_newsOf 27 = .ok (.iconst 1, 1) := by decide +kernel
theorem qd_Z_newsOf_28 : decode qc_Z_newsOf 28 = .ok (.goto 4, 3) := by decide +kernel
theorem qd_Z_newsOf_31 : decode qc_Z_newsOf 31 = .ok (.iconst 0, 1) := by decide +kernel
theorem qd_Z_newsOf_32 : decode qc_Z_newsOf 32 = .ok (.iadd, 1) := by decide +kernel
theorem qd_Z_newsOf_33 : decode qc_Z_newsOf 33 = .ok (.istore_n 2, 1) := by decide +kernel
theorem qd_Z_newsOf_34 : decode qc_Z_newsOf 34 = .ok (.iinc 3 1, 3) := by decide +kernel
theorem qd_Z_newsOf_37 : decode qc_Z_newsOf 37 = .ok (.goto (-33), 3) := by decide +kernel
theorem qd_Z_newsOf_40 : decode qc_Z_newsOf 40 = .ok (.iload_n 2, 1) := by decide +kernel
theorem qd_Z_newsOf_41 : decode qc_Z_newsOf 41 = .ok (.ireturn, 1) := by decide +kernel
theorem qd_Z_queued_0 : decode qc_Z_queued 0 = .ok (.aload_n 0, 1) := by decide +kernel
theorem qd_Z_queued_1 : decode qc_Z_queued 1 = .ok (.iload_n 1, 1) := by decide +kernel
theorem qd_Z_queued_2 : decode qc_Z_queued 2 = .ok (.invokevirtual 127, 3) := by decide +kernel
theorem qd_Z_queued_5 : decode qc_Z_queued 5 = .ok (.ifCond .eq 25, 3) := by decide +kernel
theorem qd_Z_queued_8 : decode qc_Z_queued 8 = .ok (.aload_n 0, 1) := by decide +kernel
theorem qd_Z_queued_9 : decode qc_Z_queued 9 = .ok (.iload_n 2, 1) := by decide +kernel
theorem qd_Z_queued_10 : decode qc_Z_queued 10 = .ok (.invokevirtual 90, 3) := by decide +kernel
theorem qd_Z_queued_13 : decode qc_Z_queued 13 = .ok (.ifCond .eq 17, 3) := by decide +kernel
theorem qd_Z_queued_16 : decode qc_Z_queued 16 = .ok (.aload_n 0, 1) := by decide +kernel
theorem qd_Z_queued_17 : decode qc_Z_queued 17 = .ok (.getfield 41, 3) := by decide +kernel
theorem qd_Z_queued_20 : decode qc_Z_queued 20 = .ok (.bipush 8, 2) := by decide +kernel
theorem qd_Z_queued_22 : decode qc_Z_queued 22 = .ok (.iload_n 1, 1) := by decide +kernel
theorem qd_Z_queued_23 : decode qc_Z_queued 23 = .ok (.imul, 1) := by decide +kernel
theorem qd_Z_queued_24 : decode qc_Z_queued 24 = .ok (.iload_n 2, 1) := by decide +kernel
theorem qd_Z_queued_25 : decode qc_Z_queued 25 = .ok (.iadd, 1) := by decide +kernel
theorem qd_Z_queued_26 : decode qc_Z_queued 26 = .ok (.iaload, 1) := by decide +kernel
theorem qd_Z_queued_27 : decode qc_Z_queued 27 = .ok (.goto 4, 3) := by decide +kernel
theorem qd_Z_queued_30 : decode qc_Z_queued 30 = .ok (.iconst 0, 1) := by decide +kernel
theorem qd_Z_queued_31 : decode qc_Z_queued 31 = .ok (.ireturn, 1) := by decide +kernel
theorem qd_Z_agreed_0 : decode qc_Z_agreed 0 = .ok (.iconst 1, 1) := by decide +kernel
theorem qd_Z_agreed_1 : decode qc_Z_agreed 1 = .ok (.istore_n 1, 1) := by decide +kernel
theorem qd_Z_agreed_2 : decode qc_Z_agreed 2 = .ok (.iconst 0, 1) := by decide +kernel
theorem qd_Z_agreed_3 : decode qc_Z_agreed 3 = .ok (.istore_n 2, 1) := by decide +kernel
theorem qd_Z_agreed_4 : decode qc_Z_agreed 4 = .ok (.iload_n 2, 1) := by decide +kernel
theorem qd_Z_agreed_5 : decode qc_Z_agreed 5 = .ok (.aload_n 0, 1) := by decide +kernel
theorem qd_Z_agreed_6 : decode qc_Z_agreed 6 = .ok (.getfield 86, 3) := by decide +kernel
theorem qd_Z_agreed_9 : decode qc_Z_agreed 9 = .ok (.if_icmp .ge 109, 3) := by decide +kernel
theorem qd_Z_agreed_12 : decode qc_Z_agreed 12 = .ok (.iconst 0, 1) := by decide +kernel
theorem qd_Z_agreed_13 : decode qc_Z_agreed 13 = .ok (.istore_n 3, 1) := by decide +kernel
theorem qd_Z_agreed_14 : decode qc_Z_agreed 14 = .ok (.iload_n 3, 1) := by decide +kernel
theorem qd_Z_agreed_15 : decode qc_Z_agreed 15 = .ok (.aload_n 0, 1) := by decide +kernel
theorem qd_Z_agreed_16 : decode qc_Z_agreed 16 = .ok (.getfield 86, 3) := by decide +kernel
theorem qd_Z_agreed_19 : decode qc_Z_agreed 19 = .ok (.if_icmp .ge 93, 3) := by decide +kernel
theorem qd_Z_agreed_22 : decode qc_Z_agreed 22 = .ok (.aload_n 0, 1) := by decide +kernel
theorem qd_Z_agreed_23 : decode qc_Z_agreed 23 = .ok (.getfield 20, 3) := by decide +kernel
theorem qd_Z_agreed_26 : decode qc_Z_agreed 26 = .ok (.iload_n 2, 1) := by decide +kernel
theorem qd_Z_agreed_27 : decode qc_Z_agreed 27 = .ok (.baload, 1) := by decide +kernel
theorem qd_Z_agreed_28 : decode qc_Z_agreed 28 = .ok (.ifCond .eq 84, 3) := by decide +kernel
theorem qd_Z_agreed_31 : decode qc_Z_agreed 31 = .ok (.aload_n 0, 1) := by decide +kernel
theorem qd_Z_agreed_32 : decode qc_Z_agreed 32 = .ok (.getfield 29, 3) := by decide +kernel
theorem qd_Z_agreed_35 : decode qc_Z_agreed 35 = .ok (.bipush 8, 2) := by decide +kernel
theorem qd_Z_agreed_37 : decode qc_Z_agreed 37 = .ok (.iload_n 2, 1) := by decide +kernel
theorem qd_Z_agreed_38 : decode qc_Z_agreed 38 = .ok (.imul, 1) := by decide +kernel
theorem qd_Z_agreed_39 : decode qc_Z_agreed 39 = .ok (.iload_n 3, 1) := by decide +kernel
theorem qd_Z_agreed_40 : decode qc_Z_agreed 40 = .ok (.iadd, 1) := by decide +kernel
theorem qd_Z_agreed_41 : decode qc_Z_agreed 41 = .ok (.iaload, 1) := by decide +kernel
theorem qd_Z_agreed_42 : decode qc_Z_agreed 42 = .ok (.istore 4, 2) := by decide +kernel
theorem qd_Z_agreed_44 : decode qc_Z_agreed 44 = .ok (.iload_n 1, 1) := by decide +kernel
theorem qd_Z_agreed_45 : decode qc_Z_agreed 45 = .ok (.ifCond .eq 59, 3) := by decide +kernel
theorem qd_Z_agreed_48 : decode qc_Z_agreed 48 = .ok (.aload_n 0, 1) := by decide +kernel
theorem qd_Z_agreed_49 : decode qc_Z_agreed 49 = .ok (.getfield 20, 3) := by decide +kernel
theorem qd_Z_agreed_52 : decode qc_Z_agreed 52 = .ok (.iload_n 3, 1) := by decide +kernel
theorem qd_Z_agreed_53 : decode qc_Z_agreed 53 = .ok (.baload, 1) := by decide +kernel
theorem qd_Z_agreed_54 : decode qc_Z_agreed 54 = .ok (.ifCond .eq 35, 3) := by decide +kernel
theorem qd_Z_agreed_57 : decode qc_Z_agreed 57 = .ok (.iload 4, 2) := by decide +kernel
theorem qd_Z_agreed_59 : decode qc_Z_agreed 59 = .ok (.iconst 1, 1) := by decide +kernel
theorem qd_Z_agreed_60 : decode qc_Z_agreed 60 = .ok (.if_icmp .ne 44, 3) := by decide +kernel
theorem qd_Z_agreed_63 : decode qc_Z_agreed 63 = .ok (.aload_n 0, 1) := by decide +kernel
theorem qd_Z_agreed_64 : decode qc_Z_agreed 64 = .ok (.getfield 32, 3) := by decide +kernel
theorem qd_Z_agreed_67 : decode qc_Z_agreed 67 = .ok (.bipush 8, 2) := by decide +kernel
theorem qd_Z_agreed_69 : decode qc_Z_agreed 69 = .ok (.iload_n 2, 1) := by decide +kernel
theorem qd_Z_agreed_70 : decode qc_Z_agreed 70 = .ok (.imul, 1) := by decide +kernel
theorem qd_Z_agreed_71 : decode qc_Z_agreed 71 = .ok (.iload_n 3, 1) := by decide +kernel
theorem qd_Z_agreed_72 : decode qc_Z_agreed 72 = .ok (.iadd, 1) := by decide +kernel
theorem qd_Z_agreed_73 : decode qc_Z_agreed 73 = .ok (.iaload, 1) := by decide +kernel
theorem qd_Z_agreed_74 : decode qc_Z_agreed 74 = .ok (.aload_n 0, 1) := by decide +kernel
theorem qd_Z_agreed_75 : decode qc_Z_agreed 75 = .ok (.getfield 32, 3) := by decide +kernel
theorem qd_Z_agreed_78 : decode qc_Z_agreed 78 = .ok (.bipush 9, 2) := by decide +kernel
theorem qd_Z_agreed_80 : decode qc_Z_agreed 80 = .ok (.iload_n 3, 1) := by decide +kernel
theorem qd_Z_agreed_81 : decode qc_Z_agreed 81 = .ok (.imul, 1) := by decide +kernel
theorem qd_Z_agreed_82 : decode qc_Z_agreed 82 = .ok (.iaload, 1) := by decide +kernel
theorem qd_Z_agreed_83 : decode qc_Z_agreed 83 = .ok (.if_icmp .ne 21, 3) := by decide +kernel
theorem qd_Z_agreed_86 : decode qc_Z_agreed 86 = .ok (.goto 14, 3) := by decide +kernel
theorem qd_Z_agreed_89 : decode qc_Z_agreed 89 = .ok (.iload 4, 2) := by decide +kernel
theorem qd_Z_agreed_91 : decode qc_Z_agreed 91 = .ok (.ifCond .eq 9, 3) := by decide +kernel
theorem qd_Z_agreed_94 : decode qc_Z_agreed 94 = .ok (.iload 4, 2) := by decide +kernel
theorem qd_Z_agreed_96 : decode qc_Z_agreed 96 = .ok (.iconst 3, 1) := by decide +kernel
theorem qd_Z_agreed_97 : decode qc_Z_agreed 97 = .ok (.if_icmp .ne 7, 3) := by decide +kernel
theorem qd_Z_agreed_100 : decode qc_Z_agreed 100 = .ok (.iconst 1, 1) := by decide +kernel
theorem qd_Z_agreed_101 : decode qc_Z_agreed 101 = .ok (.goto 4, 3) := by decide +kernel
theorem qd_Z_agreed_104 : decode qc_Z_agreed 104 = .ok (.iconst 0, 1) := by decide +kernel
theorem qd_Z_agreed_105 : decode qc_Z_agreed 105 = .ok (.istore_n 1, 1) := by decide +kernel
theorem qd_Z_agreed_106 : decode qc_Z_agreed 106 = .ok (.iinc 3 1, 3) := by decide +kernel
theorem qd_Z_agreed_109 : decode qc_Z_agreed 109 = .ok (.goto (-95), 3) := by decide +kernel
theorem qd_Z_agreed_112 : decode qc_Z_agreed 112 = .ok (.iinc 2 1, 3) := by decide +kernel
theorem qd_Z_agreed_115 : decode qc_Z_agreed 115 = .ok (.goto (-111), 3) := by decide +kernel
theorem qd_Z_agreed_118 : decode qc_Z_agreed 118 = .ok (.iload_n 1, 1) := by decide +kernel
theorem qd_Z_agreed_119 : decode qc_Z_agreed 119 = .ok (.ireturn, 1) := by decide +kernel
theorem qd_L_cell_0 : decode qc_L_cell 0 = .ok (.iload_n 1, 1) := by decide +kernel
theorem qd_L_cell_1 : decode qc_L_cell 1 = .ok (.aload_n 0, 1) := by decide +kernel
theorem qd_L_cell_2 : decode qc_L_cell 2 = .ok (.arraylength, 1) := by decide +kernel
theorem qd_L_cell_3 : decode qc_L_cell 3 = .ok (.if_icmp .ge 9, 3) := by decide +kernel
theorem qd_L_cell_6 : decode qc_L_cell 6 = .ok (.aload_n 0, 1) := by decide +kernel
theorem qd_L_cell_7 : decode qc_L_cell 7 = .ok (.iload_n 1, 1) := by decide +kernel
theorem qd_L_cell_8 : decode qc_L_cell 8 = .ok (.iaload, 1) := by decide +kernel
theorem qd_L_cell_9 : decode qc_L_cell 9 = .ok (.goto 4, 3) := by decide +kernel
theorem qd_L_cell_12 : decode qc_L_cell 12 = .ok (.iconst 0, 1) := by decide +kernel
theorem qd_L_cell_13 : decode qc_L_cell 13 = .ok (.ireturn, 1) := by decide +kernel
theorem qd_L_law_0 : decode code 0 = .ok (.new 7, 3) := by decide +kernel
theorem qd_L_law_3 : decode code 3 = .ok (.dup, 1) := by decide +kernel
theorem qd_L_law_4 : decode code 4 = .ok (.aload_n 0, 1) := by decide +kernel
theorem qd_L_law_5 : decode code 5 = .ok (.iconst 0, 1) := by decide +kernel
theorem qd_L_law_6 : decode code 6 = .ok (.invokestatic 9, 3) := by decide +kernel
theorem qd_L_law_9 : decode code 9 = .ok (.invokespecial 15, 3) := by decide +kernel
theorem qd_L_law_12 : decode code 12 = .ok (.astore_n 1, 1) := by decide +kernel
theorem qd_L_law_13 : decode code 13 = .ok (.new 18, 3) := by decide +kernel
theorem qd_L_law_16 : decode code 16 = .ok (.dup, 1) := by decide +kernel
theorem qd_L_law_17 : decode code 17 = .ok (.aload_n 0, 1) := by decide +kernel
theorem qd_L_law_18 : decode code 18 = .ok (.iconst 0, 1) := by decide +kernel
theorem qd_L_law_19 : decode code 19 = .ok (.invokestatic 9, 3) := by decide +kernel
theorem qd_L_law_22 : decode code 22 = .ok (.invokespecial 20, 3) := by decide +kernel
theorem qd_L_law_25 : decode code 25 = .ok (.astore_n 2, 1) := by decide +kernel
theorem qd_L_law_26 : decode code 26 = .ok (.iconst 1, 1) := by decide +kernel
theorem qd_L_law_27 : decode code 27 = .ok (.istore_n 3, 1) := by decide +kernel
theorem qd_L_law_28 : decode code 28 = .ok (.iload_n 3, 1) := by decide +kernel
theorem qd_L_law_29 : decode code 29 = .ok (.aload_n 0, 1) := by decide +kernel
theorem qd_L_law_30 : decode code 30 = .ok (.arraylength, 1) := by decide +kernel
theorem qd_L_law_31 : decode code 31 = .ok (.iconst 4, 1) := by decide +kernel
theorem qd_L_law_32 : decode code 32 = .ok (.isub, 1) := by decide +kernel
theorem qd_L_law_33 : decode code 33 = .ok (.if_icmp .gt 473, 3) := by decide +kernel
theorem qd_L_law_36 : decode code 36 = .ok (.aload_n 0, 1) := by decide +kernel
theorem qd_L_law_37 : decode code 37 = .ok (.iload_n 3, 1) := by decide +kernel
theorem qd_L_law_38 : decode code 38 = .ok (.iaload, 1) := by decide +kernel
theorem qd_L_law_39 : decode code 39 = .ok (.bipush 15, 2) := by decide +kernel
theorem qd_L_law_41 : decode code 41 = .ok (.iand, 1) := by decide +kernel
theorem qd_L_law_42 : decode code 42 = .ok (.tableswitch 458 0 13 #[70, 103, 126, 149, 208, 231, 254, 277, 290, 303, 336, 379, 412, 445], 70) := by decide +kernel
theorem qd_L_law_112 : decode code 112 = .ok (.aload_n 1, 1) := by decide +kernel
theorem qd_L_law_113 : decode code 113 = .ok (.aload_n 0, 1) := by decide +kernel
theorem qd_L_law_114 : decode code 114 = .ok (.iload_n 3, 1) := by decide +kernel
theorem qd_L_law_115 : decode code 115 = .ok (.iconst 1, 1) := by decide +kernel
theorem qd_L_law_116 : decode code 116 = .ok (.iadd, 1) := by decide +kernel
theorem qd_L_law_117 : decode code 117 = .ok (.iaload, 1) := by decide +kernel
theorem qd_L_law_118 : decode code 118 = .ok (.aload_n 0, 1) := by decide +kernel
theorem qd_L_law_119 : decode code 119 = .ok (.iload_n 3, 1) := by decide +kernel
theorem qd_L_law_120 : decode code 120 = .ok (.iconst 2, 1) := by decide +kernel
theorem qd_L_law_121 : decode code 121 = .ok (.iadd, 1) := by decide +kernel
theorem qd_L_law_122 : decode code 122 = .ok (.iaload, 1) := by decide +kernel
theorem qd_L_law_123 : decode code 123 = .ok (.invokevirtual 21, 3) := by decide +kernel
theorem qd_L_law_126 : decode code 126 = .ok (.aload_n 2, 1) := by decide +kernel
theorem qd_L_law_127 : decode code 127 = .ok (.aload_n 0, 1) := by decide +kernel
theorem qd_L_law_128 : decode code 128 = .ok (.iload_n 3, 1) := by decide +kernel
theorem qd_L_law_129 : decode code 129 = .ok (.iconst 1, 1) := by decide +kernel
theorem qd_L_law_130 : decode code 130 = .ok (.iadd, 1) := by decide +kernel
theorem qd_L_law_131 : decode code 131 = .ok (.iaload, 1) := by decide +kernel
theorem qd_L_law_132 : decode code 132 = .ok (.aload_n 0, 1) := by decide +kernel
theorem qd_L_law_133 : decode code 133 = .ok (.iload_n 3, 1) := by decide +kernel
theorem qd_L_law_134 : decode code 134 = .ok (.iconst 2, 1) := by decide +kernel
theorem qd_L_law_135 : decode code 135 = .ok (.iadd, 1) := by decide +kernel
theorem qd_L_law_136 : decode code 136 = .ok (.iaload, 1) := by decide +kernel
theorem qd_L_law_137 : decode code 137 = .ok (.invokevirtual 25, 3) := by decide +kernel
theorem qd_L_law_140 : decode code 140 = .ok (.if_icmp .eq 360, 3) := by decide +kernel
theorem qd_L_law_143 : decode code 143 = .ok (.iconst 0, 1) := by decide +kernel
theorem qd_L_law_144 : decode code 144 = .ok (.ireturn, 1) := by decide +kernel
theorem qd_L_law_145 : decode code 145 = .ok (.aload_n 1, 1) := by decide +kernel
theorem qd_L_law_146 : decode code 146 = .ok (.aload_n 0, 1) := by decide +kernel
theorem qd_L_law_147 : decode code 147 = .ok (.iload_n 3, 1) := by decide +kernel
theorem qd_L_law_148 : decode code 148 = .ok (.iconst 1, 1) := by decide +kernel
theorem qd_L_law_149 : decode code 149 = .ok (.iadd, 1) := by decide +kernel
theorem qd_L_law_150 : decode code 150 = .ok (.iaload, 1) := by decide +kernel
theorem qd_L_law_151 : decode code 151 = .ok (.invokevirtual 26, 3) := by decide +kernel
theorem qd_L_law_154 : decode code 154 = .ok (.aload_n 2, 1) := by decide +kernel
theorem qd_L_law_155 : decode code 155 = .ok (.aload_n 0, 1) := by decide +kernel
theorem qd_L_law_156 : decode code 156 = .ok (.iload_n 3, 1) := by decide +kernel
theorem qd_L_law_157 : decode code 157 = .ok (.iconst 1, 1) := by decide +kernel
theorem qd_L_law_158 : decode code 158 = .ok (.iadd, 1) := by decide +kernel
theorem qd_L_law_159 : decode code 159 = .ok (.iaload, 1) := by decide +kernel
theorem qd_L_law_160 : decode code 160 = .ok (.invokevirtual 30, 3) := by decide +kernel
theorem qd_L_law_163 : decode code 163 = .ok (.if_icmp .eq 337, 3) := by decide +kernel
theorem qd_L_law_166 : decode code 166 = .ok (.iconst 0, 1) := by decide +kernel
theorem qd_L_law_167 : decode code 167 = .ok (.ireturn, 1) := by decide +kernel
theorem qd_L_law_168 : decode code 168 = .ok (.aload_n 1, 1) := by decide +kernel
theorem qd_L_law_169 : decode code 169 = .ok (.aload_n 0, 1) := by decide +kernel
theorem qd_L_law_170 : decode code 170 = .ok (.iload_n 3, 1) := by decide +kernel
theorem qd_L_law_171 : decode code 171 = .ok (.iconst 1, 1) := by decide +kernel
theorem qd_L_law_172 : decode code 172 = .ok (.iadd, 1) := by decide +kernel
theorem qd_L_law_173 : decode code 173 = .ok (.iaload, 1) := by decide +kernel
theorem qd_L_law_174 : decode code 174 = .ok (.invokevirtual 31, 3) := by decide +kernel
theorem qd_L_law_177 : decode code 177 = .ok (.aload_n 2, 1) := by decide +kernel
theorem qd_L_law_178 : decode code 178 = .ok (.aload_n 0, 1) := by decide +kernel
theorem qd_L_law_179 : decode code 179 = .ok (.iload_n 3, 1) := by decide +kernel
theorem qd_L_law_180 : decode code 180 = .ok (.iconst 1, 1) := by decide +kernel
theorem qd_L_law_181 : decode code 181 = .ok (.iadd, 1) := by decide +kernel
theorem qd_L_law_182 : decode code 182 = .ok (.iaload, 1) := by decide +kernel
theorem qd_L_law_183 : decode code 183 = .ok (.invokevirtual 34, 3) := by decide +kernel
theorem qd_L_law_186 : decode code 186 = .ok (.if_icmp .eq 314, 3) := by decide +kernel
theorem qd_L_law_189 : decode code 189 = .ok (.iconst 0, 1) := by decide +kernel
theorem qd_L_law_190 : decode code 190 = .ok (.ireturn, 1) := by decide +kernel
theorem qd_L_law_191 : decode code 191 = .ok (.aload_n 1, 1) := by decide +kernel
theorem qd_L_law_192 : decode code 192 = .ok (.aload_n 0, 1) := by decide +kernel
theorem qd_L_law_193 : decode code 193 = .ok (.iload_n 3, 1) := by decide +kernel
theorem qd_L_law_194 : decode code 194 = .ok (.iconst 1, 1) := by decide +kernel
theorem qd_L_law_195 : decode code 195 = .ok (.iadd, 1) := by decide +kernel
theorem qd_L_law_196 : decode code 196 = .ok (.iaload, 1) := by decide +kernel
theorem qd_L_law_197 : decode code 197 = .ok (.aload_n 0, 1) := by decide +kernel
theorem qd_L_law_198 : decode code 198 = .ok (.iload_n 3, 1) := by decide +kernel
theorem qd_L_law_199 : decode code 199 = .ok (.iconst 2, 1) := by decide +kernel
theorem qd_L_law_200 : decode code 200 = .ok (.iadd, 1) := by decide +kernel
theorem qd_L_law_201 : decode code 201 = .ok (.iaload, 1) := by decide +kernel
theorem qd_L_law_202 : decode code 202 = .ok (.aload_n 0, 1) := by decide +kernel
theorem qd_L_law_203 : decode code 203 = .ok (.iload_n 3, 1) := by decide +kernel
theorem qd_L_law_204 : decode code 204 = .ok (.iconst 3, 1) := by decide +kernel
theorem qd_L_law_205 : decode code 205 = .ok (.iadd, 1) := by decide +kernel
theorem qd_L_law_206 : decode code 206 = .ok (.iaload, 1) := by decide +kernel
theorem qd_L_law_207 : decode code 207 = .ok (.ifCond .eq 7, 3) := by decide +kernel
theorem qd_L_law_210 : decode code 210 = .ok (.iconst 1, 1) := by decide +kernel
theorem qd_L_law_211 : decode code 211 = .ok (.goto 4, 3) := by decide +kernel
theorem qd_L_law_214 : decode code 214 = .ok (.iconst 0, 1) := by decide +kernel
theorem qd_L_law_215 : decode code 215 = .ok (.invokevirtual 35, 3) := by decide +kernel
theorem qd_L_law_218 : decode code 218 = .ok (.aload_n 2, 1) := by decide +kernel
theorem qd_L_law_219 : decode code 219 = .ok (.aload_n 0, 1) := by decide +kernel
theorem qd_L_law_220 : decode code 220 = .ok (.iload_n 3, 1) := by decide +kernel
theorem qd_L_law_221 : decode code 221 = .ok (.iconst 1, 1) := by decide +kernel
theorem qd_L_law_222 : decode code 222 = .ok (.iadd, 1) := by decide +kernel
theorem qd_L_law_223 : decode code 223 = .ok (.iaload, 1) := by decide +kernel
theorem qd_L_law_224 : decode code 224 = .ok (.aload_n 0, 1) := by decide +kernel
theorem qd_L_law_225 : decode code 225 = .ok (.iload_n 3, 1) := by decide +kernel
theorem qd_L_law_226 : decode code 226 = .ok (.iconst 2, 1) := by decide +kernel
theorem qd_L_law_227 : decode code 227 = .ok (.iadd, 1) := by decide +kernel
theorem qd_L_law_228 : decode code 228 = .ok (.iaload, 1) := by decide +kernel
theorem qd_L_law_229 : decode code 229 = .ok (.aload_n 0, 1) := by decide +kernel
theorem qd_L_law_230 : decode code 230 = .ok (.iload_n 3, 1) := by decide +kernel
theorem qd_L_law_231 : decode code 231 = .ok (.iconst 3, 1) := by decide +kernel
theorem qd_L_law_232 : decode code 232 = .ok (.iadd, 1) := by decide +kernel
theorem qd_L_law_233 : decode code 233 = .ok (.iaload, 1) := by decide +kernel
theorem qd_L_law_234 : decode code 234 = .ok (.ifCond .eq 7, 3) := by decide +kernel
theorem qd_L_law_237 : decode code 237 = .ok (.iconst 1, 1) := by decide +kernel
theorem qd_L_law_238 : decode code 238 = .ok (.goto 4, 3) := by decide +kernel
theorem qd_L_law_241 : decode code 241 = .ok (.iconst 0, 1) := by decide +kernel
theorem qd_L_law_242 : decode code 242 = .ok (.invokevirtual 39, 3) := by decide +kernel
theorem qd_L_law_245 : decode code 245 = .ok (.if_icmp .eq 255, 3) := by decide +kernel
theorem qd_L_law_248 : decode code 248 = .ok (.iconst 0, 1) := by decide +kernel
theorem qd_L_law_249 : decode code 249 = .ok (.ireturn, 1) := by decide +kernel
theorem qd_L_law_250 : decode code 250 = .ok (.aload_n 1, 1) := by decide +kernel
theorem qd_L_law_251 : decode code 251 = .ok (.aload_n 0, 1) := by decide +kernel
theorem qd_L_law_252 : decode code 252 = .ok (.iload_n 3, 1) := by decide +kernel
theorem qd_L_law_253 : decode code 253 = .ok (.iconst 1, 1) := by decide +kernel
theorem qd_L_law_254 : decode code 254 = .ok (.iadd, 1) := by decide +kernel
theorem qd_L_law_255 : decode code 255 = .ok (.iaload, 1) := by decide +kernel
theorem qd_L_law_256 : decode code 256 = .ok (.invokevirtual 40, 3) := by decide +kernel
theorem qd_L_law_259 : decode code 259 = .ok (.aload_n 2, 1) := by decide +kernel
theorem qd_L_law_260 : decode code 260 = .ok (.aload_n 0, 1) := by decide +kernel
theorem qd_L_law_261 : decode code 261 = .ok (.iload_n 3, 1) := by decide +kernel
theorem qd_L_law_262 : decode code 262 = .ok (.iconst 1, 1) := by decide +kernel
theorem qd_L_law_263 : decode code 263 = .ok (.iadd, 1) := by decide +kernel
theorem qd_L_law_264 : decode code 264 = .ok (.iaload, 1) := by decide +kernel
theorem qd_L_law_265 : decode code 265 = .ok (.invokevirtual 43, 3) := by decide +kernel
theorem qd_L_law_268 : decode code 268 = .ok (.if_icmp .eq 232, 3) := by decide +kernel
theorem qd_L_law_271 : decode code 271 = .ok (.iconst 0, 1) := by decide +kernel
theorem qd_L_law_272 : decode code 272 = .ok (.ireturn, 1) := by decide +kernel
theorem qd_L_law_273 : decode code 273 = .ok (.aload_n 1, 1) := by decide +kernel
theorem qd_L_law_274 : decode code 274 = .ok (.aload_n 0, 1) := by decide +kernel
theorem qd_L_law_275 : decode code 275 = .ok (.iload_n 3, 1) := by decide +kernel
theorem qd_L_law_276 : decode code 276 = .ok (.iconst 1, 1) := by decide +kernel
theorem qd_L_law_277 : decode code 277 = .ok (.iadd, 1) := by decide +kernel
theorem qd_L_law_278 : decode code 278 = .ok (.iaload, 1) := by decide +kernel
theorem qd_L_law_279 : decode code 279 = .ok (.invokevirtual 44, 3) := by decide +kernel
theorem qd_L_law_282 : decode code 282 = .ok (.aload_n 2, 1) := by decide +kernel
theorem qd_L_law_283 : decode code 283 = .ok (.aload_n 0, 1) := by decide +kernel
theorem qd_L_law_284 : decode code 284 = .ok (.iload_n 3, 1) := by decide +kernel
theorem qd_L_law_285 : decode code 285 = .ok (.iconst 1, 1) := by decide +kernel
theorem qd_L_law_286 : decode code 286 = .ok (.iadd, 1) := by decide +kernel
theorem qd_L_law_287 : decode code 287 = .ok (.iaload, 1) := by decide +kernel
theorem qd_L_law_288 : decode code 288 = .ok (.invokevirtual 47, 3) := by decide +kernel
theorem qd_L_law_291 : decode code 291 = .ok (.if_icmp .eq 209, 3) := by decide +kernel
theorem qd_L_law_294 : decode code 294 = .ok (.iconst 0, 1) := by decide +kernel
theorem qd_L_law_295 : decode code 295 = .ok (.ireturn, 1) := by decide +kernel
theorem qd_L_law_296 : decode code 296 = .ok (.aload_n 1, 1) := by decide +kernel
theorem qd_L_law_297 : decode code 297 = .ok (.aload_n 0, 1) := by decide +kernel
theorem qd_L_law_298 : decode code 298 = .ok (.iload_n 3, 1) := by decide +kernel
theorem qd_L_law_299 : decode code 299 = .ok (.iconst 1, 1) := by decide +kernel
theorem qd_L_law_300 : decode code 300 = .ok (.iadd, 1) := by decide +kernel
theorem qd_L_law_301 : decode code 301 = .ok (.iaload, 1) := by decide +kernel
theorem qd_L_law_302 : decode code 302 = .ok (.invokevirtual 48, 3) := by decide +kernel
theorem qd_L_law_305 : decode code 305 = .ok (.aload_n 2, 1) := by decide +kernel
theorem qd_L_law_306 : decode code 306 = .ok (.aload_n 0, 1) := by decide +kernel
theorem qd_L_law_307 : decode code 307 = .ok (.iload_n 3, 1) := by decide +kernel
theorem qd_L_law_308 : decode code 308 = .ok (.iconst 1, 1) := by decide +kernel
theorem qd_L_law_309 : decode code 309 = .ok (.iadd, 1) := by decide +kernel
theorem qd_L_law_310 : decode code 310 = .ok (.iaload, 1) := by decide +kernel
theorem qd_L_law_311 : decode code 311 = .ok (.invokevirtual 52, 3) := by decide +kernel
theorem qd_L_law_314 : decode code 314 = .ok (.if_icmp .eq 186, 3) := by decide +kernel
theorem qd_L_law_317 : decode code 317 = .ok (.iconst 0, 1) := by decide +kernel
theorem qd_L_law_318 : decode code 318 = .ok (.ireturn, 1) := by decide +kernel
theorem qd_L_law_319 : decode code 319 = .ok (.aload_n 1, 1) := by decide +kernel
theorem qd_L_law_320 : decode code 320 = .ok (.invokevirtual 53, 3) := by decide +kernel
theorem qd_L_law_323 : decode code 323 = .ok (.aload_n 2, 1) := by decide +kernel
theorem qd_L_law_324 : decode code 324 = .ok (.invokevirtual 57, 3) := by decide +kernel
theorem qd_L_law_327 : decode code 327 = .ok (.if_icmp .eq 173, 3) := by decide +kernel
theorem qd_L_law_330 : decode code 330 = .ok (.iconst 0, 1) := by decide +kernel
theorem qd_L_law_331 : decode code 331 = .ok (.ireturn, 1) := by decide +kernel
theorem qd_L_law_332 : decode code 332 = .ok (.aload_n 1, 1) := by decide +kernel
theorem qd_L_law_333 : decode code 333 = .ok (.invokevirtual 58, 3) := by decide +kernel
theorem qd_L_law_336 : decode code 336 = .ok (.aload_n 2, 1) := by decide +kernel
theorem qd_L_law_337 : decode code 337 = .ok (.invokevirtual 61, 3) := by decide +kernel
theorem qd_L_law_340 : decode code 340 = .ok (.if_icmp .eq 160, 3) := by decide +kernel
theorem qd_L_law_343 : decode code 343 = .ok (.iconst 0, 1) := by decide +kernel
theorem qd_L_law_344 : decode code 344 = .ok (.ireturn, 1) := by decide +kernel
theorem qd_L_law_345 : decode code 345 = .ok (.aload_n 1, 1) := by decide +kernel
theorem qd_L_law_346 : decode code 346 = .ok (.aload_n 0, 1) := by decide +kernel
theorem qd_L_law_347 : decode code 347 = .ok (.iload_n 3, 1) := by decide +kernel
theorem qd_L_law_348 : decode code 348 = .ok (.iconst 1, 1) := by decide +kernel
theorem qd_L_law_349 : decode code 349 = .ok (.iadd, 1) := by decide +kernel
theorem qd_L_law_350 : decode code 350 = .ok (.iaload, 1) := by decide +kernel
theorem qd_L_law_351 : decode code 351 = .ok (.aload_n 0, 1) := by decide +kernel
theorem qd_L_law_352 : decode code 352 = .ok (.iload_n 3, 1) := by decide +kernel
theorem qd_L_law_353 : decode code 353 = .ok (.iconst 2, 1) := by decide +kernel
theorem qd_L_law_354 : decode code 354 = .ok (.iadd, 1) := by decide +kernel
theorem qd_L_law_355 : decode code 355 = .ok (.iaload, 1) := by decide +kernel
theorem qd_L_law_356 : decode code 356 = .ok (.invokevirtual 62, 3) := by decide +kernel
theorem qd_L_law_359 : decode code 359 = .ok (.aload_n 2, 1) := by decide +kernel
theorem qd_L_law_360 : decode code 360 = .ok (.aload_n 0, 1) := by decide +kernel
theorem qd_L_law_361 : decode code 361 = .ok (.iload_n 3, 1) := by decide +kernel
theorem qd_L_law_362 : decode code 362 = .ok (.iconst 1, 1) := by decide +kernel
theorem qd_L_law_363 : decode code 363 = .ok (.iadd, 1) := by decide +kernel
theorem qd_L_law_364 : decode code 364 = .ok (.iaload, 1) := by decide +kernel
theorem qd_L_law_365 : decode code 365 = .ok (.aload_n 0, 1) := by decide +kernel
theorem qd_L_law_366 : decode code 366 = .ok (.iload_n 3, 1) := by decide +kernel
theorem qd_L_law_367 : decode code 367 = .ok (.iconst 2, 1) := by decide +kernel
theorem qd_L_law_368 : decode code 368 = .ok (.iadd, 1) := by decide +kernel
theorem qd_L_law_369 : decode code 369 = .ok (.iaload, 1) := by decide +kernel
theorem qd_L_law_370 : decode code 370 = .ok (.invokevirtual 66, 3) := by decide +kernel
theorem qd_L_law_373 : decode code 373 = .ok (.if_icmp .eq 127, 3) := by decide +kernel
theorem qd_L_law_376 : decode code 376 = .ok (.iconst 0, 1) := by decide +kernel
theorem qd_L_law_377 : decode code 377 = .ok (.ireturn, 1) := by decide +kernel
theorem qd_L_law_378 : decode code 378 = .ok (.aload_n 1, 1) := by decide +kernel
theorem qd_L_law_379 : decode code 379 = .ok (.aload_n 0, 1) := by decide +kernel
theorem qd_L_law_380 : decode code 380 = .ok (.iload_n 3, 1) := by decide +kernel
theorem qd_L_law_381 : decode code 381 = .ok (.iconst 1, 1) := by decide +kernel
theorem qd_L_law_382 : decode code 382 = .ok (.iadd, 1) := by decide +kernel
theorem qd_L_law_383 : decode code 383 = .ok (.iaload, 1) := by decide +kernel
theorem qd_L_law_384 : decode code 384 = .ok (.aload_n 0, 1) := by decide +kernel
theorem qd_L_law_385 : decode code 385 = .ok (.iload_n 3, 1) := by decide +kernel
theorem qd_L_law_386 : decode code 386 = .ok (.iconst 2, 1) := by decide +kernel
theorem qd_L_law_387 : decode code 387 = .ok (.iadd, 1) := by decide +kernel
theorem qd_L_law_388 : decode code 388 = .ok (.iaload, 1) := by decide +kernel
theorem qd_L_law_389 : decode code 389 = .ok (.aload_n 0, 1) := by decide +kernel
theorem qd_L_law_390 : decode code 390 = .ok (.iload_n 3, 1) := by decide +kernel
theorem qd_L_law_391 : decode code 391 = .ok (.iconst 3, 1) := by decide +kernel
theorem qd_L_law_392 : decode code 392 = .ok (.iadd, 1) := by decide +kernel
theorem qd_L_law_393 : decode code 393 = .ok (.iaload, 1) := by decide +kernel
theorem qd_L_law_394 : decode code 394 = .ok (.invokevirtual 67, 3) := by decide +kernel
theorem qd_L_law_397 : decode code 397 = .ok (.aload_n 2, 1) := by decide +kernel
theorem qd_L_law_398 : decode code 398 = .ok (.aload_n 0, 1) := by decide +kernel
theorem qd_L_law_399 : decode code 399 = .ok (.iload_n 3, 1) := by decide +kernel
theorem qd_L_law_400 : decode code 400 = .ok (.iconst 1, 1) := by decide +kernel
theorem qd_L_law_401 : decode code 401 = .ok (.iadd, 1) := by decide +kernel
theorem qd_L_law_402 : decode code 402 = .ok (.iaload, 1) := by decide +kernel
theorem qd_L_law_403 : decode code 403 = .ok (.aload_n 0, 1) := by decide +kernel
theorem qd_L_law_404 : decode code 404 = .ok (.iload_n 3, 1) := by decide +kernel
theorem qd_L_law_405 : decode code 405 = .ok (.iconst 2, 1) := by decide +kernel
theorem qd_L_law_406 : decode code 406 = .ok (.iadd, 1) := by decide +kernel
theorem qd_L_law_407 : decode code 407 = .ok (.iaload, 1) := by decide +kernel
theorem qd_L_law_408 : decode code 408 = .ok (.aload_n 0, 1) := by decide +kernel
theorem qd_L_law_409 : decode code 409 = .ok (.iload_n 3, 1) := by decide +kernel
theorem qd_L_law_410 : decode code 410 = .ok (.iconst 3, 1) := by decide +kernel
theorem qd_L_law_411 : decode code 411 = .ok (.iadd, 1) := by decide +kernel
theorem qd_L_law_412 : decode code 412 = .ok (.iaload, 1) := by decide +kernel
theorem qd_L_law_413 : decode code 413 = .ok (.invokevirtual 71, 3) := by decide +kernel
theorem qd_L_law_416 : decode code 416 = .ok (.if_icmp .eq 84, 3) := by decide +kernel
theorem qd_L_law_419 : decode code 419 = .ok (.iconst 0, 1) := by decide +kernel
theorem qd_L_law_420 : decode code 420 = .ok (.ireturn, 1) := by decide +kernel
theorem qd_L_law_421 : decode code 421 = .ok (.aload_n 1, 1) := by decide +kernel
theorem qd_L_law_422 : decode code 422 = .ok (.aload_n 0, 1) := by decide +kernel
theorem qd_L_law_423 : decode code 423 = .ok (.iload_n 3, 1) := by decide +kernel
theorem qd_L_law_424 : decode code 424 = .ok (.iconst 1, 1) := by decide +kernel
theorem qd_L_law_425 : decode code 425 = .ok (.iadd, 1) := by decide +kernel
theorem qd_L_law_426 : decode code 426 = .ok (.iaload, 1) := by decide +kernel
theorem qd_L_law_427 : decode code 427 = .ok (.aload_n 0, 1) := by decide +kernel
theorem qd_L_law_428 : decode code 428 = .ok (.iload_n 3, 1) := by decide +kernel
theorem qd_L_law_429 : decode code 429 = .ok (.iconst 2, 1) := by decide +kernel
theorem qd_L_law_430 : decode code 430 = .ok (.iadd, 1) := by decide +kernel
theorem qd_L_law_431 : decode code 431 = .ok (.iaload, 1) := by decide +kernel
theorem qd_L_law_432 : decode code 432 = .ok (.invokevirtual 72, 3) := by decide +kernel
theorem qd_L_law_435 : decode code 435 = .ok (.aload_n 2, 1) := by decide +kernel
theorem qd_L_law_436 : decode code 436 = .ok (.aload_n 0, 1) := by decide +kernel
theorem qd_L_law_437 : decode code 437 = .ok (.iload_n 3, 1) := by decide +kernel
theorem qd_L_law_438 : decode code 438 = .ok (.iconst 1, 1) := by decide +kernel
theorem qd_L_law_439 : decode code 439 = .ok (.iadd, 1) := by decide +kernel
theorem qd_L_law_440 : decode code 440 = .ok (.iaload, 1) := by decide +kernel
theorem qd_L_law_441 : decode code 441 = .ok (.aload_n 0, 1) := by decide +kernel
theorem qd_L_law_442 : decode code 442 = .ok (.iload_n 3, 1) := by decide +kernel
theorem qd_L_law_443 : decode code 443 = .ok (.iconst 2, 1) := by decide +kernel
theorem qd_L_law_444 : decode code 444 = .ok (.iadd, 1) := by decide +kernel
theorem qd_L_law_445 : decode code 445 = .ok (.iaload, 1) := by decide +kernel
theorem qd_L_law_446 : decode code 446 = .ok (.invokevirtual 75, 3) := by decide +kernel
theorem qd_L_law_449 : decode code 449 = .ok (.if_icmp .eq 51, 3) := by decide +kernel
theorem qd_L_law_452 : decode code 452 = .ok (.iconst 0, 1) := by decide +kernel
theorem qd_L_law_453 : decode code 453 = .ok (.ireturn, 1) := by decide +kernel
theorem qd_L_law_454 : decode code 454 = .ok (.aload_n 1, 1) := by decide +kernel
theorem qd_L_law_455 : decode code 455 = .ok (.aload_n 0, 1) := by decide +kernel
theorem qd_L_law_456 : decode code 456 = .ok (.iload_n 3, 1) := by decide +kernel
theorem qd_L_law_457 : decode code 457 = .ok (.iconst 1, 1) := by decide +kernel
theorem qd_L_law_458 : decode code 458 = .ok (.iadd, 1) := by decide +kernel
theorem qd_L_law_459 : decode code 459 = .ok (.iaload, 1) := by decide +kernel
theorem qd_L_law_460 : decode code 460 = .ok (.aload_n 0, 1) := by decide +kernel
theorem qd_L_law_461 : decode code 461 = .ok (.iload_n 3, 1) := by decide +kernel
theorem qd_L_law_462 : decode code 462 = .ok (.iconst 2, 1) := by decide +kernel
theorem qd_L_law_463 : decode code 463 = .ok (.iadd, 1) := by decide +kernel
theorem qd_L_law_464 : decode code 464 = .ok (.iaload, 1) := by decide +kernel
theorem qd_L_law_465 : decode code 465 = .ok (.invokevirtual 76, 3) := by decide +kernel
theorem qd_L_law_468 : decode code 468 = .ok (.aload_n 2, 1) := by decide +kernel
theorem qd_L_law_469 : decode code 469 = .ok (.aload_n 0, 1) := by decide +kernel
theorem qd_L_law_470 : decode code 470 = .ok (.iload_n 3, 1) := by decide +kernel
theorem qd_L_law_471 : decode code 471 = .ok (.iconst 1, 1) := by decide +kernel
theorem qd_L_law_472 : decode code 472 = .ok (.iadd, 1) := by decide +kernel
theorem qd_L_law_473 : decode code 473 = .ok (.iaload, 1) := by decide +kernel
theorem qd_L_law_474 : decode code 474 = .ok (.aload_n 0, 1) := by decide +kernel
theorem qd_L_law_475 : decode code 475 = .ok (.iload_n 3, 1) := by decide +kernel
theorem qd_L_law_476 : decode code 476 = .ok (.iconst 2, 1) := by decide +kernel
theorem qd_L_law_477 : decode code 477 = .ok (.iadd, 1) := by decide +kernel
theorem qd_L_law_478 : decode code 478 = .ok (.iaload, 1) := by decide +kernel
theorem qd_L_law_479 : decode code 479 = .ok (.invokevirtual 79, 3) := by decide +kernel
theorem qd_L_law_482 : decode code 482 = .ok (.if_icmp .eq 18, 3) := by decide +kernel
theorem qd_L_law_485 : decode code 485 = .ok (.iconst 0, 1) := by decide +kernel
theorem qd_L_law_486 : decode code 486 = .ok (.ireturn, 1) := by decide +kernel
theorem qd_L_law_487 : decode code 487 = .ok (.aload_n 1, 1) := by decide +kernel
theorem qd_L_law_488 : decode code 488 = .ok (.invokevirtual 80, 3) := by decide +kernel
theorem qd_L_law_491 : decode code 491 = .ok (.aload_n 2, 1) := by decide +kernel
theorem qd_L_law_492 : decode code 492 = .ok (.invokevirtual 84, 3) := by decide +kernel
theorem qd_L_law_495 : decode code 495 = .ok (.if_icmp .eq 5, 3) := by decide +kernel
theorem qd_L_law_498 : decode code 498 = .ok (.iconst 0, 1) := by decide +kernel
theorem qd_L_law_499 : decode code 499 = .ok (.ireturn, 1) := by decide +kernel
theorem qd_L_law_500 : decode code 500 = .ok (.iinc 3 4, 3) := by decide +kernel
theorem qd_L_law_503 : decode code 503 = .ok (.goto (-475), 3) := by decide +kernel
theorem qd_L_law_506 : decode code 506 = .ok (.iconst 1, 1) := by decide +kernel
theorem qd_L_law_507 : decode code 507 = .ok (.ireturn, 1) := by decide +kernel
end
section
/-! all cells are made: the worlds of the methods -/
abbrev gTt (G : gG) : Nat := (gOrd G.1).length
theorem gKs_all {G : gG} : gKs G (gTt G) = gOrd G.1 := List.take_length
theorem gm_in {G : gG} {k : gK} (h : k ∈ gOrd G.1) : k ∈ gKs G (gTt G) := by rw [gKs_all]; exact h
theorem gm_G {G : gG} : ((0, 0, 0) : gK) ∈ gKs G (gTt G) := gm_in (by simp [gOrd])
theorem gm_F {G : gG} : ((3, 0, 0) : gK) ∈ gKs G (gTt G) := gm_in (by simp [gOrd])
theorem gm_Z {G : gG} : ((20, 0, 0) : gK) ∈ gKs G (gTt G) := gm_in (by simp [gOrd])
theorem gm_ns {G : gG} : ((1, 0, 0) : gK) ∈ gKs G (gTt G) := gm_in (by simp [gOrd])
theorem gm_cf {G : gG} : ((2, 0, 0) : gK) ∈ gKs G (gTt G) := gm_in (by simp [gOrd])
theorem gm_w {G : gG} {b : Nat} (h : b < 2) : ((4, b, 0) : gK) ∈ gKs G (gTt G) := gm_in (by
  have : b = 0 ∨ b = 1 := by omega
  rcases this with rfl | rfl <;> simp [gOrd])
theorem gm_M {G : gG} {a : Nat} (h : a < 121) : ((5, a, 0) : gK) ∈ gKs G (gTt G) := gm_in (by
  simp only [gOrd, List.mem_append]
  by_cases h1 : a = 120
  · subst h1; simp
  · refine Or.inl (Or.inl (Or.inl (Or.inl (Or.inr (List.mem_flatMap.mpr ?_)))))
    by_cases h2 : a < 60
    · exact ⟨a, List.mem_range.mpr h2, by simp⟩
    · refine ⟨a - 60, List.mem_range.mpr (by omega), ?_⟩
      have : 60 + (a - 60) = a := by omega
      simp [this])
theorem gm_nw {G : gG} {a : Nat} (h : a < 121) : ((6, a, 0) : gK) ∈ gKs G (gTt G) := gm_in (by
  simp only [gOrd, List.mem_append]
  by_cases h1 : a = 120
  · subst h1; simp
  · refine Or.inl (Or.inl (Or.inl (Or.inl (Or.inr (List.mem_flatMap.mpr ?_)))))
    by_cases h2 : a < 60
    · exact ⟨a, List.mem_range.mpr h2, by simp⟩
    · refine ⟨a - 60, List.mem_range.mpr (by omega), ?_⟩
      have : 60 + (a - 60) = a := by omega
      simp [this])
theorem gm_node {G : gG} {i : Nat} {k : gK} (hi : i < G.1) (h : k ∈ gNodeKs G.1 i) : k ∈ gKs G (gTt G) := gm_in (by
  simp only [gOrd, List.mem_append]
  exact Or.inl (Or.inl (Or.inr (List.mem_flatMap.mpr ⟨i, List.mem_range.mpr hi, h⟩))))
theorem gm_N {G : gG} {i : Nat} (hi : i < G.1) : ((7, i, 0) : gK) ∈ gKs G (gTt G) := gm_node hi (by simp [gNodeKs])
theorem gm_tb {G : gG} {i : Nat} (hi : i < G.1) : ((8, i, 0) : gK) ∈ gKs G (gTt G) := gm_node hi (by simp [gNodeKs])
theorem gm_rs {G : gG} {i : Nat} (hi : i < G.1) : ((10, i, 0) : gK) ∈ gKs G (gTt G) := gm_node hi (by simp [gNodeKs])
theorem gm_E {G : gG} {i j : Nat} (hi : i < G.1) (hj : j < G.1) : ((9, i, j) : gK) ∈ gKs G (gTt G) := gm_node hi (by simp [gNodeKs, hj])
theorem gm_R {G : gG} {i r : Nat} (hi : i < G.1) (hr : r < 4) : ((11, i, r) : gK) ∈ gKs G (gTt G) := gm_node hi (by simp [gNodeKs, hr])
theorem gm_za {G : gG} {k : Nat} (h1 : 21 ≤ k) (h2 : k < 46) : ((k, 0, 0) : gK) ∈ gKs G (gTt G) := gm_in (by
  simp only [gOrd, List.mem_append]
  refine Or.inr (List.mem_map.mpr ⟨k - 21, List.mem_range.mpr (by omega), ?_⟩)
  have : 21 + (k - 21) = k := by omega
  rw [this])
/-- references that never change -/
def gStat (k : gK) (f : Nat) : Option gK := match k.1 with
  | 0 => match f with
    | 1 => some (1, 0, 0)
    | 2 => some (2, 0, 0)
    | 3 => some (3, 0, 0)
    | _ => none
  | 1 => some (7, f, 0)
  | 3 => match f with
    | 2 => some (5, 120, 0)
    | _ => none
  | 5 => match f with
    | 7 => some (6, k.2.1, 0)
    | _ => none
  | 7 => match f with
    | 2 => some (3, 0, 0)
    | 3 => some (8, k.2.1, 0)
    | 4 => some (10, k.2.1, 0)
    | _ => none
  | 8 => some (9, k.2.1, f)
  | 20 => match f with
    | 3 => some (21, 0, 0)
    | 4 => some (22, 0, 0)
    | 5 => some (23, 0, 0)
    | 6 => some (24, 0, 0)
    | 7 => some (25, 0, 0)
    | 8 => some (26, 0, 0)
    | 9 => some (27, 0, 0)
    | 10 => some (28, 0, 0)
    | 11 => some (29, 0, 0)
    | 12 => some (30, 0, 0)
    | 13 => some (31, 0, 0)
    | 14 => some (32, 0, 0)
    | 15 => some (33, 0, 0)
    | 16 => some (34, 0, 0)
    | 17 => some (35, 0, 0)
    | 18 => some (36, 0, 0)
    | 19 => some (37, 0, 0)
    | 20 => some (38, 0, 0)
    | 21 => some (39, 0, 0)
    | 22 => some (40, 0, 0)
    | 23 => some (41, 0, 0)
    | 24 => some (42, 0, 0)
    | 25 => some (43, 0, 0)
    | 26 => some (44, 0, 0)
    | 27 => some (45, 0, 0)
    | _ => none
  | _ => none
/-- the world between calls: how many nodes, and the references that never change -/
def gSt (G : gG) (S : gS) : Prop := ∀ (k : gK) (f : Nat) (k' : gK), gStat k f = some k' → S.2 k f = some k'
/-- a loop that counts up -/
theorem g_upto {P : Nat → Prop} {n : Nat} (hn : P n) (hs : ∀ k, k < n → P (k + 1) → P k) : ∀ k, k ≤ n → P k := by
  intro k hk
  have h : ∀ j, j ≤ n → P (n - j) := by
    intro j
    induction j with
    | zero => intro _; exact hn
    | succ j ih =>
      intro hj
      have := ih (by omega)
      refine hs (n - (j + 1)) (by omega) ?_
      have e : n - (j + 1) + 1 = n - j := by omega
      rw [e]; exact this
  have := h (n - k) (by omega)
  have e : n - (n - k) = k := by omega
  rwa [e] at this
end
section
theorem gI1 {S : gS} {k k' : gK} {f f' : Nat} {v : Int32} : (gI S k f v).1 k' f' = if k' = k ∧ f' = f then v else S.1 k' f' := rfl
theorem gI2 {S : gS} {k : gK} {f : Nat} {v : Int32} : (gI S k f v).2 = S.2 := rfl
theorem gX1 {S : gS} {k : gK} {f : Nat} {r : Option gK} : (gX S k f r).1 = S.1 := rfl
theorem gX2 {S : gS} {k k' : gK} {f f' : Nat} {r : Option gK} : (gX S k f r).2 k' f' = if k' = k ∧ f' = f then r else S.2 k' f' := rfl
theorem g_inc (k : Nat) : nI k + Int32.ofInt 1 = nI (k + 1) := by rw [nI_succ]; rfl
theorem g_sub1 (k : Nat) : nI k + 1 - 1 = nI k := by rw [← nI_succ, nI_pred]
theorem g_lit (k : Nat) : (OfNat.ofNat k : Int32) = nI k := rfl
section GZ2
variable {G : gG} {E : gEnv} {cells slots : Nat} {Q : State → Prop} {t pc : Nat} {lv : List (Option gV)} {st : List gV} {S : gS} {cc : ByteArray} {nL : Nat} {own : String} {d : Nat}
/-- a switch over 0 .. hi -/
theorem gz_switch (cx : gC G E cc nL own d) {dflt : Int} {offs : Array Int} {len : Nat} {x : Int32} (hi : Nat) (tg : Nat → Nat) (tgd : Nat) (hd : decode cc pc = .ok (.tableswitch dflt 0 (hi : Int) offs, len)) (hh : hi < 100) (ht : ∀ i, i < hi + 1 → ∃ off : Int, offs[i]? = some off ∧ (pc : Int) + off = (tg i : Int)) (htd : (pc : Int) + dflt = (tgd : Int))
    (kin : ∀ i, i < hi + 1 → x = nI i → gZ G E cells slots Q t (tg i) lv st S) (kout : (∀ i, i < hi + 1 → x ≠ nI i) → gZ G E cells slots Q t tgd lv st S) : gZ G E cells slots Q t pc lv (.inl x :: st) S := by
  by_cases h : vp_in x (hi + 1)
  · obtain ⟨j, hj, rfl⟩ := vp_in_of h (by omega)
    obtain ⟨off, ho, hto⟩ := ht j hj
    have e := nI_toInt (n := j) (by omega)
    refine gz_tableIn cx hd (by rw [e]; omega) (by rw [e]; omega) ?_ hto (kin j hj rfl)
    rw [e]
    simpa using ho
  · have h2 : ¬ (0 ≤ x.toInt ∧ x.toInt < ((hi + 1 : Nat) : Int)) := fun q => h (vp_in_iff.mpr q)
    refine gz_tableOut cx hd (by omega) htd (kout fun i hi2 hx => ?_)
    subst hx
    exact h (vp_in_nI hi2 (by omega))
end GZ2
end
section
/-! what never changes of the class's cells -/
def cK (G : gG) (S : gS) : Prop := gSt G S ∧ G.1 ≤ 8 ∧ 2 ≤ G.1 ∧ (∀ i, i < G.1 → S.1 (7, i, 0) 0 = nI i ∧ S.1 (7, i, 0) 1 = nI G.1) ∧ S.1 (0, 0, 0) 0 = nI G.1
theorem cK.of {G : gG} {S S' : gS} (h : cK G S) (h2 : ∀ k f k', gStat k f = some k' → S'.2 k f = S.2 k f) (h7 : ∀ i, S'.1 (7, i, 0) 0 = S.1 (7, i, 0) 0 ∧ S'.1 (7, i, 0) 1 = S.1 (7, i, 0) 1) (h0 : S'.1 (0, 0, 0) 0 = S.1 (0, 0, 0) 0) : cK G S' :=
  ⟨fun k f k' hk => by rw [h2 k f k' hk]; exact h.1 k f k' hk, h.2.1, h.2.2.1, fun i hi => by rw [(h7 i).1, (h7 i).2]; exact h.2.2.2.1 i hi, by rw [h0]; exact h.2.2.2.2⟩
theorem cK.I {G : gG} {S : gS} {k : gK} {f : Nat} {v : Int32} (h : cK G S) (hk : k.1 ≠ 0 ∧ (k.1 = 7 → 2 ≤ f)) : cK G (gI S k f v) := by
  refine h.of (fun _ _ _ _ => rfl) (fun i => ?_) ?_
  · rw [gI1, gI1]
    have h1 : ¬ ((7, i, 0) = k ∧ 0 = f) := fun q => by have := hk.2 (by rw [← q.1]); omega
    have h2 : ¬ ((7, i, 0) = k ∧ 1 = f) := fun q => by have := hk.2 (by rw [← q.1]); omega
    rw [if_neg h1, if_neg h2]; exact ⟨rfl, rfl⟩
  · rw [gI1, if_neg (fun q => hk.1 (by rw [← q.1]))]
/-! the queue -/
def mBest (q : Nat → Int32) : Nat → Option Nat
  | 0 => none
  | m + 1 => match mBest q m with
    | none => if 0 < q m then some m else none
    | some b => if q b < q m then some m else some b
def mPick (n : Nat) : Nat → (Nat → Int32) → List Nat
  | 0, _ => []
  | k + 1, q => match mBest q n with
    | none => []
    | some b => b :: mPick n k (fun m => if m = b then 0 else q m)
def mB (r : Option Nat) : Int32 := match r with
  | none => -1
  | some b => nI b
def mV (q : Nat → Int32) (r : Option Nat) : Int32 := match r with
  | none => 0
  | some b => q b
theorem mBest_lt {q : Nat → Int32} : ∀ {k b : Nat}, mBest q k = some b → b < k ∧ 0 < q b
  | 0, b, h => by cases h
  | k + 1, b, h => by
    rw [mBest] at h
    cases hb : mBest q k with
    | none =>
      rw [hb] at h
      by_cases h0 : 0 < q k
      · simp [h0] at h; subst h; exact ⟨by omega, h0⟩
      · simp [h0] at h
    | some c =>
      rw [hb] at h
      have ih := mBest_lt hb
      by_cases h0 : q c < q k
      · simp [h0] at h; subst h; exact ⟨by omega, Int32.lt_trans ih.2 h0⟩
      · simp [h0] at h; subst h; exact ⟨by omega, ih.2⟩
theorem mBest_step {q : Nat → Int32} {k : Nat} : mBest q (k + 1) = if mV q (mBest q k) < q k then some k else mBest q k := by
  rw [mBest]
  cases hb : mBest q k with
  | none => rfl
  | some b => rfl
theorem mBest_congr {q q' : Nat → Int32} : ∀ {k : Nat}, (∀ m, m < k → q m = q' m) → mBest q k = mBest q' k
  | 0, _ => rfl
  | k + 1, h => by
    rw [mBest_step, mBest_step, mBest_congr (k := k) (fun m hm => h m (by omega)), h k (by omega)]
    cases hb : mBest q' k with
    | none => rfl
    | some b => rw [mV, mV, h b (by have := (mBest_lt hb).1; omega)]
def qm (S : gS) (i : Nat) (l : List Nat) (m : Nat) : Int32 := if m ∈ l then 0 else S.1 (9, i, m) 4
/-- a mask of members below 8 -/
def isMk (x : Int32) (l : List Nat) : Prop := ∃ y : Nat, y < 256 ∧ x = nI y ∧ ∀ m, m < 8 → ((x >>> (nI m &&& 31)) &&& 1 = 0 ↔ m ∉ l)
theorem isMk_dec : ∀ x, x < 256 → ∀ b, b < 8 → nI x ||| (1 <<< (nI b &&& 31)) = nI (x ||| (2 ^ b)) ∧ x ||| (2 ^ b) < 256 ∧ ∀ m, m < 8 → ((nI (x ||| (2 ^ b)) >>> (nI m &&& 31)) &&& 1 = 0 ↔ (m ≠ b ∧ (nI x >>> (nI m &&& 31)) &&& 1 = 0)) := by decide +kernel
theorem isMk_0 : isMk 0 [] := ⟨0, by decide, rfl, by decide +kernel⟩
theorem isMk_add {x : Int32} {l : List Nat} {b : Nat} (h : isMk x l) (hb : b < 8) : isMk (x ||| (1 <<< (nI b &&& 31))) (l ++ [b]) := by
  obtain ⟨y, hy, rfl, hm⟩ := h
  obtain ⟨e, h2, h3⟩ := isMk_dec y hy b hb
  refine ⟨y ||| 2 ^ b, h2, e, fun m hm8 => ?_⟩
  rw [e, h3 m hm8, hm m hm8]
  simp only [List.mem_append, List.mem_singleton, not_or]
  exact And.comm
/-! loading a message -/
def sCarry (S : gS) (a c i m : Nat) : gS := gI (gI (gI (gI S (6, a, 0) (3 * c) (nI m)) (6, a, 0) (3 * c + 1) (S.1 (9, i, m) 0)) (6, a, 0) (3 * c + 2) (S.1 (9, i, m) 1)) (5, a, 0) 6 (nI (c + 1))
def sLoad (a i : Nat) : List Nat → Nat → gS → gS
  | [], _, S => S
  | m :: l, c, S => sLoad a i l (c + 1) (sCarry S a c i m)
def sQ (a i : Nat) : List Nat → Nat → gS → gS
  | [], _, S => S
  | m :: l, c, S => sQ a i l (c + 1) (gI (sCarry S a c i m) (9, i, m) 4 (S.1 (9, i, m) 4 - 1))
theorem sLoad_app (a i : Nat) : ∀ (l : List Nat) (m c : Nat) (S : gS), sLoad a i (l ++ [m]) c S = sCarry (sLoad a i l c S) a (c + l.length) i m
  | [], m, c, S => rfl
  | b :: l, m, c, S => by
    show sLoad a i (l ++ [m]) (c + 1) _ = sCarry (sLoad a i l (c + 1) _) a (c + (l.length + 1)) i m
    rw [sLoad_app a i l m (c + 1)]
    congr 1
    omega
theorem sQ_app (a i : Nat) : ∀ (l : List Nat) (m c : Nat) (S : gS), sQ a i (l ++ [m]) c S = gI (sCarry (sQ a i l c S) a (c + l.length) i m) (9, i, m) 4 ((sQ a i l c S).1 (9, i, m) 4 - 1)
  | [], m, c, S => rfl
  | b :: l, m, c, S => by
    show sQ a i (l ++ [m]) (c + 1) _ = gI (sCarry (sQ a i l (c + 1) _) a (c + (l.length + 1)) i m) (9, i, m) 4 _
    rw [sQ_app a i l m (c + 1)]
    have e : c + 1 + l.length = c + (l.length + 1) := by omega
    rw [e]
    rfl
theorem sCarry_off {S : gS} {a c i m : Nat} {k : gK} {f : Nat} (h5 : k.1 ≠ 6) (h6 : k = (5, a, 0) → f ≠ 6) : (sCarry S a c i m).1 k f = S.1 k f := by
  unfold sCarry
  have h1 : ∀ x, ¬ (k = (6, a, 0) ∧ f = x) := fun x q => h5 (by rw [q.1])
  rw [gI1, if_neg (fun q => h6 q.1 q.2), gI1, if_neg (h1 _), gI1, if_neg (h1 _), gI1, if_neg (h1 _)]
theorem sCarry_2 {S : gS} {a c i m : Nat} : (sCarry S a c i m).2 = S.2 := rfl
theorem sCarry_c {S : gS} {a c i m : Nat} : (sCarry S a c i m).1 (5, a, 0) 6 = nI (c + 1) := by
  unfold sCarry
  rw [gI1, if_pos ⟨rfl, rfl⟩]
theorem sLoad_off {a i : Nat} : ∀ {l : List Nat} {c : Nat} {S : gS} {k : gK} {f : Nat}, k.1 ≠ 6 → (k = (5, a, 0) → f ≠ 6) → (sLoad a i l c S).1 k f = S.1 k f
  | [], _, _, _, _, _, _ => rfl
  | m :: l, c, S, k, f, h1, h2 => by
    show (sLoad a i l (c + 1) _).1 k f = _
    rw [sLoad_off h1 h2, sCarry_off h1 h2]
theorem sLoad_2 {a i : Nat} : ∀ {l : List Nat} {c : Nat} {S : gS}, (sLoad a i l c S).2 = S.2
  | [], _, _ => rfl
  | m :: l, c, S => by
    show (sLoad a i l (c + 1) _).2 = _
    rw [sLoad_2]; rfl
theorem sLoad_c {a i : Nat} : ∀ {l : List Nat} {c : Nat} {S : gS}, S.1 (5, a, 0) 6 = nI c → (sLoad a i l c S).1 (5, a, 0) 6 = nI (c + l.length)
  | [], _, _, h => h
  | m :: l, c, S, h => by
    show (sLoad a i l (c + 1) _).1 _ _ = _
    rw [sLoad_c sCarry_c]
    congr 1
    simp only [List.length_cons]; omega
theorem sQ_off {a i : Nat} : ∀ {l : List Nat} {c : Nat} {S : gS} {k : gK} {f : Nat}, k.1 ≠ 6 → (k = (5, a, 0) → f ≠ 6) → (k.1 = 9 → f ≠ 4 ∨ k.2.1 ≠ i ∨ k.2.2 ∉ l) → (sQ a i l c S).1 k f = S.1 k f
  | [], _, _, _, _, _, _, _ => rfl
  | m :: l, c, S, k, f, h1, h2, h3 => by
    show (sQ a i l (c + 1) _).1 k f = _
    rw [sQ_off h1 h2 (fun q => by
      rcases h3 q with h | h | h
      · exact Or.inl h
      · exact Or.inr (Or.inl h)
      · exact Or.inr (Or.inr (fun z => h (List.mem_cons_of_mem _ z)))), gI1, if_neg, sCarry_off h1 h2]
    intro q
    rcases h3 (by rw [q.1]) with h | h | h
    · exact h q.2
    · exact h (by rw [q.1])
    · exact h (by rw [q.1]; exact List.mem_cons_self)
theorem sQ_2 {a i : Nat} : ∀ {l : List Nat} {c : Nat} {S : gS}, (sQ a i l c S).2 = S.2
  | [], _, _ => rfl
  | m :: l, c, S => by
    show (sQ a i l (c + 1) _).2 = _
    rw [sQ_2]; rfl
theorem sQ_c {a i : Nat} : ∀ {l : List Nat} {c : Nat} {S : gS}, S.1 (5, a, 0) 6 = nI c → (sQ a i l c S).1 (5, a, 0) 6 = nI (c + l.length)
  | [], _, _, h => h
  | m :: l, c, S, h => by
    show (sQ a i l (c + 1) _).1 _ _ = _
    rw [sQ_c (by rw [gI1, if_neg (fun q => by simp at q)]; exact sCarry_c)]
    congr 1
    simp only [List.length_cons]; omega
def mTab (S : gS) (i k : Nat) : List Nat := (List.range k).filter (fun m => !decide (S.1 (9, i, m) 0 = 0))
theorem mTab_s (S : gS) (i k : Nat) : mTab S i (k + 1) = if S.1 (9, i, k) 0 = 0 then mTab S i k else mTab S i k ++ [k] := by
  unfold mTab
  rw [List.range_succ, List.filter_append]
  by_cases h : S.1 (9, i, k) 0 = 0 <;> simp [h]
theorem mTab_len (S : gS) (i k : Nat) : (mTab S i k).length ≤ k := by
  unfold mTab
  exact Nat.le_trans (List.length_filter_le _ _) (by simp)
theorem cK.load {G : gG} {S : gS} {a i c : Nat} {l : List Nat} (h : cK G S) : cK G (sLoad a i l c S) := h.of (fun _ _ _ _ => by rw [sLoad_2]) (fun i => ⟨sLoad_off (by simp) (fun q => by cases q), sLoad_off (by simp) (fun q => by cases q)⟩) (sLoad_off (by simp) (fun q => by cases q))
theorem cK.q {G : gG} {S : gS} {a i c : Nat} {l : List Nat} (h : cK G S) : cK G (sQ a i l c S) := h.of (fun _ _ _ _ => by rw [sQ_2]) (fun i => ⟨sQ_off (by simp) (fun q => by cases q) (fun q => by cases q), sQ_off (by simp) (fun q => by cases q) (fun q => by cases q)⟩) (sQ_off (by simp) (fun q => by cases q) (fun q => by cases q))
end
section
theorem gc_E_announce {G : gG} {la : Launch} {S : gS} {i j : Nat} (hi : i < G.1) (hj : j < G.1) : gM G la qy_E_announce qw_E_announce 0 0 0 (gTt G) (gTt G) [.inr (some (9, i, j))] S (fun v S' => v = none ∧ S' = gI S (9, i, j) 4 4) := by
  refine gM_of (cc := qc_E_announce) (maxL := 1) (by decide) rfl (Nat.le_of_ble_eq_true rfl) ?_
  intro E cx hr hnm hcz hsz hEl
  subst hEl
  refine gz_aload_n (pc := 0) cx qd_E_announce_0 rfl rfl ?_
  refine gz_iconst (v := 4) (pc := 1) cx qd_E_announce_1 (by decide) ?_
  refine gz_putI (pc := 2) cx qp_E_24 qd_E_announce_2 (gm_E (by assumption) (by assumption)) rfl rfl ⟨rfl, rfl⟩ (fun h => nomatch h) ?_
  refine gz_return (pc := 5) cx hr qd_E_announce_5 ?_
  exact ⟨rfl, rfl⟩
def sForget (S : gS) (i j : Nat) : gS := gI (gI (gI (gI (gI S (9, i, j) 0 0) (9, i, j) 1 0) (9, i, j) 2 0) (9, i, j) 3 0) (9, i, j) 4 0
theorem gc_E_forget {G : gG} {la : Launch} {S : gS} {i j : Nat} (hi : i < G.1) (hj : j < G.1) : gM G la qy_E_forget qw_E_forget 0 0 0 (gTt G) (gTt G) [.inr (some (9, i, j))] S (fun v S' => v = none ∧ S' = sForget S i j) := by
  refine gM_of (cc := qc_E_forget) (maxL := 1) (by decide) rfl (Nat.le_of_ble_eq_true rfl) ?_
  intro E cx hr hnm hcz hsz hEl
  subst hEl
  refine gz_aload_n (pc := 0) cx qd_E_forget_0 rfl rfl ?_
  refine gz_iconst (v := 0) (pc := 1) cx qd_E_forget_1 (by decide) ?_
  refine gz_putI (pc := 2) cx qp_E_9 qd_E_forget_2 (gm_E (by assumption) (by assumption)) rfl rfl ⟨rfl, rfl⟩ (fun h => nomatch h) ?_
  refine gz_aload_n (pc := 5) cx qd_E_forget_5 rfl rfl ?_
  refine gz_iconst (v := 0) (pc := 6) cx qd_E_forget_6 (by decide) ?_
  refine gz_putI (pc := 7) cx qp_E_15 qd_E_forget_7 (gm_E (by assumption) (by assumption)) rfl rfl ⟨rfl, rfl⟩ (fun h => nomatch h) ?_
  refine gz_aload_n (pc := 10) cx qd_E_forget_10 rfl rfl ?_
  refine gz_iconst (v := 0) (pc := 11) cx qd_E_forget_11 (by decide) ?_
  refine gz_putI (pc := 12) cx qp_E_18 qd_E_forget_12 (gm_E (by assumption) (by assumption)) rfl rfl ⟨rfl, rfl⟩ (fun h => nomatch h) ?_
  refine gz_aload_n (pc := 15) cx qd_E_forget_15 rfl rfl ?_
  refine gz_iconst (v := 0) (pc := 16) cx qd_E_forget_16 (by decide) ?_
  refine gz_putI (pc := 17) cx qp_E_21 qd_E_forget_17 (gm_E (by assumption) (by assumption)) rfl rfl ⟨rfl, rfl⟩ (fun h => nomatch h) ?_
  refine gz_aload_n (pc := 20) cx qd_E_forget_20 rfl rfl ?_
  refine gz_iconst (v := 0) (pc := 21) cx qd_E_forget_21 (by decide) ?_
  refine gz_putI (pc := 22) cx qp_E_24 qd_E_forget_22 (gm_E (by assumption) (by assumption)) rfl rfl ⟨rfl, rfl⟩ (fun h => nomatch h) ?_
  refine gz_return (pc := 25) cx hr qd_E_forget_25 ?_
  exact ⟨rfl, rfl⟩
def sBecome (S : gS) (i j : Nat) (s inc now : Int32) : gS := gI (gI (gI (gI (gI S (9, i, j) 0 s) (9, i, j) 1 inc) (9, i, j) 2 now) (9, i, j) 3 0) (9, i, j) 4 4
theorem gc_E_become {G : gG} {la : Launch} {S : gS} {i j : Nat} {s inc now : Int32} (hi : i < G.1) (hj : j < G.1) : gM G la qy_E_become qw_E_become 1 0 0 (gTt G) (gTt G) [.inr (some (9, i, j)), .inl s, .inl inc, .inl now] S (fun v S' => v = none ∧ S' = sBecome S i j s inc now) := by
  refine gM_of (cc := qc_E_become) (maxL := 4) (by decide) rfl (Nat.le_of_ble_eq_true rfl) ?_
  intro E cx hr hnm hcz hsz hEl
  subst hEl
  refine gz_aload_n (pc := 0) cx qd_E_become_0 rfl rfl ?_
  refine gz_iload_n (pc := 1) cx qd_E_become_1 rfl rfl ?_
  refine gz_putI (pc := 2) cx qp_E_9 qd_E_become_2 (gm_E (by assumption) (by assumption)) rfl rfl ⟨rfl, rfl⟩ (fun h => nomatch h) ?_
  refine gz_aload_n (pc := 5) cx qd_E_become_5 rfl rfl ?_
  refine gz_iload_n (pc := 6) cx qd_E_become_6 rfl rfl ?_
  refine gz_putI (pc := 7) cx qp_E_15 qd_E_become_7 (gm_E (by assumption) (by assumption)) rfl rfl ⟨rfl, rfl⟩ (fun h => nomatch h) ?_
  refine gz_aload_n (pc := 10) cx qd_E_become_10 rfl rfl ?_
  refine gz_iload_n (pc := 11) cx qd_E_become_11 rfl rfl ?_
  refine gz_putI (pc := 12) cx qp_E_18 qd_E_become_12 (gm_E (by assumption) (by assumption)) rfl rfl ⟨rfl, rfl⟩ (fun h => nomatch h) ?_
  refine gz_aload_n (pc := 15) cx qd_E_become_15 rfl rfl ?_
  refine gz_iconst (v := 0) (pc := 16) cx qd_E_become_16 (by decide) ?_
  refine gz_putI (pc := 17) cx qp_E_21 qd_E_become_17 (gm_E (by assumption) (by assumption)) rfl rfl ⟨rfl, rfl⟩ (fun h => nomatch h) ?_
  refine gz_aload_n (pc := 20) cx qd_E_become_20 rfl rfl ?_
  refine gz_callV (pc := 21) cx qv_E_27 qd_E_become_21 (gc_E_announce hi hj) (by decide) rfl (gm_E (by assumption) (by assumption)) rfl rfl rfl rfl (Nat.le_of_ble_eq_true rfl) ⟨Nat.zero_le _, Nat.zero_le _⟩ ?_
  rintro _ _ ⟨rfl, rfl⟩
  refine gz_return (pc := 24) cx hr qd_E_become_24 ?_
  exact ⟨rfl, rfl⟩
theorem gc_E_becomeSuspect {G : gG} {la : Launch} {S : gS} {i j : Nat} {inc now who : Int32} (hi : i < G.1) (hj : j < G.1) : gM G la qy_E_becomeSuspect qw_E_becomeSuspect 2 0 0 (gTt G) (gTt G) [.inr (some (9, i, j)), .inl inc, .inl now, .inl who] S (fun v S' => v = none ∧ S' = gI (sBecome S i j 2 inc now) (9, i, j) 3 (1 <<< (who &&& 31))) := by
  refine gM_of (cc := qc_E_becomeSuspect) (maxL := 4) (by decide) rfl (Nat.le_of_ble_eq_true rfl) ?_
  intro E cx hr hnm hcz hsz hEl
  subst hEl
  refine gz_aload_n (pc := 0) cx qd_E_becomeSuspect_0 rfl rfl ?_
  refine gz_iconst (v := 2) (pc := 1) cx qd_E_becomeSuspect_1 (by decide) ?_
  refine gz_iload_n (pc := 2) cx qd_E_becomeSuspect_2 rfl rfl ?_
  refine gz_iload_n (pc := 3) cx qd_E_becomeSuspect_3 rfl rfl ?_
  refine gz_callV (pc := 4) cx qv_E_30 qd_E_becomeSuspect_4 (gc_E_become hi hj) (by decide) rfl (gm_E (by assumption) (by assumption)) rfl rfl rfl rfl (Nat.le_of_ble_eq_true rfl) ⟨Nat.zero_le _, Nat.zero_le _⟩ ?_
  rintro _ _ ⟨rfl, rfl⟩
  refine gz_aload_n (pc := 7) cx qd_E_becomeSuspect_7 rfl rfl ?_
  refine gz_iconst (v := 1) (pc := 8) cx qd_E_becomeSuspect_8 (by decide) ?_
  refine gz_iload_n (pc := 9) cx qd_E_becomeSuspect_9 rfl rfl ?_
  refine gz_ishl (pc := 10) cx qd_E_becomeSuspect_10 ?_
  refine gz_putI (pc := 11) cx qp_E_21 qd_E_becomeSuspect_11 (gm_E (by assumption) (by assumption)) rfl rfl ⟨rfl, rfl⟩ (fun h => nomatch h) ?_
  refine gz_return (pc := 14) cx hr qd_E_becomeSuspect_14 ?_
  exact ⟨rfl, rfl⟩
def bI (b : Bool) : Int32 := if b then 1 else 0
theorem gc_E_isBelow {G : gG} {la : Launch} {S : gS} {i j : Nat} {s inc : Int32} (hi : i < G.1) (hj : j < G.1) : gM G la qy_E_isBelow qw_E_isBelow 0 0 0 (gTt G) (gTt G) [.inr (some (9, i, j)), .inl s, .inl inc] S (fun v S' => v = some (.inl (bI (decide (S.1 (9, i, j) 0 = 0 ∨ S.1 (9, i, j) 1 < inc ∨ (inc = S.1 (9, i, j) 1 ∧ S.1 (9, i, j) 0 < s))))) ∧ S' = S) := by
  refine gM_of (cc := qc_E_isBelow) (maxL := 3) (by decide) rfl (Nat.le_of_ble_eq_true rfl) ?_
  intro E cx hr hnm hcz hsz hEl
  subst hEl
  refine gz_aload_n (pc := 0) cx qd_E_isBelow_0 rfl rfl ?_
  refine gz_getI (pc := 1) cx qf_E_9 qd_E_isBelow_1 (gm_E (by assumption) (by assumption)) rfl rfl ?_
  refine gz_if_eq (tgt := 15) (pc := 4) cx qd_E_isBelow_4 (by decide) (fun h4 => ?_) (fun h4 => ?_)
  · refine gz_iconst (v := 1) (pc := 15) cx qd_E_isBelow_15 (by decide) ?_
    refine gz_ireturn (pc := 16) cx hr (by decide) qd_E_isBelow_16 ?_
    refine ⟨?_, rfl⟩
    simp_all [bI]
  · refine gz_iload_n (pc := 7) cx qd_E_isBelow_7 rfl rfl ?_
    refine gz_aload_n (pc := 8) cx qd_E_isBelow_8 rfl rfl ?_
    refine gz_getI (pc := 9) cx qf_E_15 qd_E_isBelow_9 (gm_E (by assumption) (by assumption)) rfl rfl ?_
    refine gz_icmp_le (tgt := 17) (pc := 12) cx qd_E_isBelow_12 (by decide) (fun h12 => ?_) (fun h12 => ?_)
    · refine gz_iload_n (pc := 17) cx qd_E_isBelow_17 rfl rfl ?_
      refine gz_aload_n (pc := 18) cx qd_E_isBelow_18 rfl rfl ?_
      refine gz_getI (pc := 19) cx qf_E_15 qd_E_isBelow_19 (gm_E (by assumption) (by assumption)) rfl rfl ?_
      refine gz_icmp_ne (tgt := 37) (pc := 22) cx qd_E_isBelow_22 (by decide) (fun h22 => ?_) (fun h22 => ?_)
      · refine gz_iconst (v := 0) (pc := 37) cx qd_E_isBelow_37 (by decide) ?_
        refine gz_ireturn (pc := 38) cx hr (by decide) qd_E_isBelow_38 ?_
        refine ⟨?_, rfl⟩
        simp_all [bI]
      · refine gz_iload_n (pc := 25) cx qd_E_isBelow_25 rfl rfl ?_
        refine gz_aload_n (pc := 26) cx qd_E_isBelow_26 rfl rfl ?_
        refine gz_getI (pc := 27) cx qf_E_9 qd_E_isBelow_27 (gm_E (by assumption) (by assumption)) rfl rfl ?_
        refine gz_icmp_le (tgt := 37) (pc := 30) cx qd_E_isBelow_30 (by decide) (fun h30 => ?_) (fun h30 => ?_)
        · refine gz_iconst (v := 0) (pc := 37) cx qd_E_isBelow_37 (by decide) ?_
          refine gz_ireturn (pc := 38) cx hr (by decide) qd_E_isBelow_38 ?_
          refine ⟨?_, rfl⟩
          simp_all [bI]
        · refine gz_iconst (v := 1) (pc := 33) cx qd_E_isBelow_33 (by decide) ?_
          refine gz_goto (tgt := 38) (pc := 34) cx qd_E_isBelow_34 (by decide) ?_
          refine gz_ireturn (pc := 38) cx hr (by decide) qd_E_isBelow_38 ?_
          refine ⟨?_, rfl⟩
          simp_all [bI]
    · refine gz_iconst (v := 1) (pc := 15) cx qd_E_isBelow_15 (by decide) ?_
      refine gz_ireturn (pc := 16) cx hr (by decide) qd_E_isBelow_16 ?_
      refine ⟨?_, rfl⟩
      simp_all [bI]
theorem gc_E_isSameSuspicion {G : gG} {la : Launch} {S : gS} {i j : Nat} {s inc : Int32} (hi : i < G.1) (hj : j < G.1) : gM G la qy_E_isSameSuspicion qw_E_isSameSuspicion 0 0 0 (gTt G) (gTt G) [.inr (some (9, i, j)), .inl s, .inl inc] S (fun v S' => v = some (.inl (bI (decide (S.1 (9, i, j) 0 = 2 ∧ s = 2 ∧ inc = S.1 (9, i, j) 1)))) ∧ S' = S) := by
  refine gM_of (cc := qc_E_isSameSuspicion) (maxL := 3) (by decide) rfl (Nat.le_of_ble_eq_true rfl) ?_
  intro E cx hr hnm hcz hsz hEl
  subst hEl
  refine gz_aload_n (pc := 0) cx qd_E_isSameSuspicion_0 rfl rfl ?_
  refine gz_getI (pc := 1) cx qf_E_9 qd_E_isSameSuspicion_1 (gm_E (by assumption) (by assumption)) rfl rfl ?_
  refine gz_iconst (v := 2) (pc := 4) cx qd_E_isSameSuspicion_4 (by decide) ?_
  refine gz_icmp_ne (tgt := 25) (pc := 5) cx qd_E_isSameSuspicion_5 (by decide) (fun h5 => ?_) (fun h5 => ?_)
  · refine gz_iconst (v := 0) (pc := 25) cx qd_E_isSameSuspicion_25 (by decide) ?_
    refine gz_ireturn (pc := 26) cx hr (by decide) qd_E_isSameSuspicion_26 ?_
    refine ⟨?_, rfl⟩
    simp_all [bI]
  · refine gz_iload_n (pc := 8) cx qd_E_isSameSuspicion_8 rfl rfl ?_
    refine gz_iconst (v := 2) (pc := 9) cx qd_E_isSameSuspicion_9 (by decide) ?_
    refine gz_icmp_ne (tgt := 25) (pc := 10) cx qd_E_isSameSuspicion_10 (by decide) (fun h10 => ?_) (fun h10 => ?_)
    · refine gz_iconst (v := 0) (pc := 25) cx qd_E_isSameSuspicion_25 (by decide) ?_
      refine gz_ireturn (pc := 26) cx hr (by decide) qd_E_isSameSuspicion_26 ?_
      refine ⟨?_, rfl⟩
      simp_all [bI]
    · refine gz_iload_n (pc := 13) cx qd_E_isSameSuspicion_13 rfl rfl ?_
      refine gz_aload_n (pc := 14) cx qd_E_isSameSuspicion_14 rfl rfl ?_
      refine gz_getI (pc := 15) cx qf_E_15 qd_E_isSameSuspicion_15 (gm_E (by assumption) (by assumption)) rfl rfl ?_
      refine gz_icmp_ne (tgt := 25) (pc := 18) cx qd_E_isSameSuspicion_18 (by decide) (fun h18 => ?_) (fun h18 => ?_)
      · refine gz_iconst (v := 0) (pc := 25) cx qd_E_isSameSuspicion_25 (by decide) ?_
        refine gz_ireturn (pc := 26) cx hr (by decide) qd_E_isSameSuspicion_26 ?_
        refine ⟨?_, rfl⟩
        simp_all [bI]
      · refine gz_iconst (v := 1) (pc := 21) cx qd_E_isSameSuspicion_21 (by decide) ?_
        refine gz_goto (tgt := 26) (pc := 22) cx qd_E_isSameSuspicion_22 (by decide) ?_
        refine gz_ireturn (pc := 26) cx hr (by decide) qd_E_isSameSuspicion_26 ?_
        refine ⟨?_, rfl⟩
        simp_all [bI]
end
section
theorem gc_M_address {G : gG} {la : Launch} {S : gS} {a : Nat} {k s r : Int32} (ha : a < 121) : gM G la qy_M_address qw_M_address 0 0 0 (gTt G) (gTt G) [.inr (some (5, a, 0)), .inl k, .inl s, .inl r] S (fun v S' => v = none ∧ S' = gI (gI (gI (gI S (5, a, 0) 0 k) (5, a, 0) 1 s) (5, a, 0) 2 r) (5, a, 0) 6 0) := by
  refine gM_of (cc := qc_M_address) (maxL := 4) (by decide) rfl (Nat.le_of_ble_eq_true rfl) ?_
  intro E cx hr hnm hcz hsz hEl
  subst hEl
  refine gz_aload_n (pc := 0) cx qd_M_address_0 rfl rfl ?_
  refine gz_iload_n (pc := 1) cx qd_M_address_1 rfl rfl ?_
  refine gz_putI (pc := 2) cx qp_M_15 qd_M_address_2 (gm_M (by assumption)) rfl rfl ⟨rfl, rfl⟩ (fun h => nomatch h) ?_
  refine gz_aload_n (pc := 5) cx qd_M_address_5 rfl rfl ?_
  refine gz_iload_n (pc := 6) cx qd_M_address_6 rfl rfl ?_
  refine gz_putI (pc := 7) cx qp_M_19 qd_M_address_7 (gm_M (by assumption)) rfl rfl ⟨rfl, rfl⟩ (fun h => nomatch h) ?_
  refine gz_aload_n (pc := 10) cx qd_M_address_10 rfl rfl ?_
  refine gz_iload_n (pc := 11) cx qd_M_address_11 rfl rfl ?_
  refine gz_putI (pc := 12) cx qp_M_22 qd_M_address_12 (gm_M (by assumption)) rfl rfl ⟨rfl, rfl⟩ (fun h => nomatch h) ?_
  refine gz_aload_n (pc := 15) cx qd_M_address_15 rfl rfl ?_
  refine gz_iconst (v := 0) (pc := 16) cx qd_M_address_16 (by decide) ?_
  refine gz_putI (pc := 17) cx qp_M_25 qd_M_address_17 (gm_M (by assumption)) rfl rfl ⟨rfl, rfl⟩ (fun h => nomatch h) ?_
  refine gz_return (pc := 20) cx hr qd_M_address_20 ?_
  exact ⟨rfl, rfl⟩
theorem gc_M_concern {G : gG} {la : Launch} {S : gS} {a : Nat} {k s r : Int32} (ha : a < 121) : gM G la qy_M_concern qw_M_concern 0 0 0 (gTt G) (gTt G) [.inr (some (5, a, 0)), .inl k, .inl s, .inl r] S (fun v S' => v = none ∧ S' = gI (gI (gI S (5, a, 0) 3 k) (5, a, 0) 4 s) (5, a, 0) 5 r) := by
  refine gM_of (cc := qc_M_concern) (maxL := 4) (by decide) rfl (Nat.le_of_ble_eq_true rfl) ?_
  intro E cx hr hnm hcz hsz hEl
  subst hEl
  refine gz_aload_n (pc := 0) cx qd_M_concern_0 rfl rfl ?_
  refine gz_iload_n (pc := 1) cx qd_M_concern_1 rfl rfl ?_
  refine gz_putI (pc := 2) cx qp_M_28 qd_M_concern_2 (gm_M (by assumption)) rfl rfl ⟨rfl, rfl⟩ (fun h => nomatch h) ?_
  refine gz_aload_n (pc := 5) cx qd_M_concern_5 rfl rfl ?_
  refine gz_iload_n (pc := 6) cx qd_M_concern_6 rfl rfl ?_
  refine gz_putI (pc := 7) cx qp_M_31 qd_M_concern_7 (gm_M (by assumption)) rfl rfl ⟨rfl, rfl⟩ (fun h => nomatch h) ?_
  refine gz_aload_n (pc := 10) cx qd_M_concern_10 rfl rfl ?_
  refine gz_iload_n (pc := 11) cx qd_M_concern_11 rfl rfl ?_
  refine gz_putI (pc := 12) cx qp_M_34 qd_M_concern_12 (gm_M (by assumption)) rfl rfl ⟨rfl, rfl⟩ (fun h => nomatch h) ?_
  refine gz_return (pc := 15) cx hr qd_M_concern_15 ?_
  exact ⟨rfl, rfl⟩
theorem gc_M_carry {G : gG} {la : Launch} {S : gS} {a c i m : Nat} (ha : a < 121) (hi : i < G.1) (hm : m < G.1) (hst : gSt G S) (hc : S.1 (5, a, 0) 6 = nI c) (hc8 : c < 8) : gM G la qy_M_carry qw_M_carry 0 0 0 (gTt G) (gTt G) [.inr (some (5, a, 0)), .inl (nI m), .inr (some (9, i, m))] S (fun v S' => v = none ∧ S' = sCarry S a c i m) := by
  refine gM_of (cc := qc_M_carry) (maxL := 4) (by decide) rfl (Nat.le_of_ble_eq_true rfl) ?_
  intro E cx hr hnm hcz hsz hEl
  subst hEl
  have e3 : (3 : Int32) * S.1 (5, a, 0) 6 = nI (3 * c) := by rw [hc]; exact pk_mul 3 c
  have e4 : (3 : Int32) * S.1 (5, a, 0) 6 + 1 = nI (3 * c + 1) := by rw [e3]; exact (nI_succ _).symm
  have e5 : (3 : Int32) * S.1 (5, a, 0) 6 + 2 = nI (3 * c + 2) := by rw [e3]; exact nI_add (3 * c) 2
  refine gz_aload_n (pc := 0) cx qd_M_carry_0 rfl rfl ?_
  refine gz_getI (pc := 1) cx qf_M_25 qd_M_carry_1 (gm_M (by assumption)) rfl rfl ?_
  refine gz_bipush (v := 8) (pc := 4) cx qd_M_carry_4 (by decide) ?_
  refine gz_icmp_lt (tgt := 10) (pc := 6) cx qd_M_carry_6 (by decide) (fun _ => ?_) (fun h6 => absurd (show _ < (8 : Int32) by rw [hc]; exact nI_lt hc8 (by decide)) h6)
  refine gz_iconst (v := 3) (pc := 10) cx qd_M_carry_10 (by decide) ?_
  refine gz_aload_n (pc := 11) cx qd_M_carry_11 rfl rfl ?_
  refine gz_getI (pc := 12) cx qf_M_25 qd_M_carry_12 (gm_M (by assumption)) rfl rfl ?_
  refine gz_imul (pc := 15) cx qd_M_carry_15 ?_
  refine gz_istore_n (pc := 16) cx qd_M_carry_16 rfl (Nat.le_of_ble_eq_true rfl) ?_
  refine gz_aload_n (pc := 17) cx qd_M_carry_17 rfl rfl ?_
  refine gz_getR (pc := 18) cx qf_M_11 qd_M_carry_18 (gm_M (by assumption)) rfl rfl (hst _ _ _ rfl) ?_
  refine gz_iload_n (pc := 21) cx qd_M_carry_21 rfl rfl ?_
  refine gz_iload_n (pc := 22) cx qd_M_carry_22 rfl rfl ?_
  refine gz_iastore (pc := 23) cx qd_M_carry_23 (by first | exact gm_tb (by assumption) | exact gm_ns | exact gm_cf | exact gm_w (by assumption) | exact gm_nw (by assumption) | exact gm_rs (by assumption) | exact gm_M (by assumption) | exact gm_R (by assumption) (by assumption) | exact gm_za (by decide) (by decide)) rfl e3 (by omega) (by decide) ?_
  refine gz_aload_n (pc := 24) cx qd_M_carry_24 rfl rfl ?_
  refine gz_getR (pc := 25) cx qf_M_11 qd_M_carry_25 (gm_M (by assumption)) rfl rfl (hst _ _ _ rfl) ?_
  refine gz_iload_n (pc := 28) cx qd_M_carry_28 rfl rfl ?_
  refine gz_iconst (v := 1) (pc := 29) cx qd_M_carry_29 (by decide) ?_
  refine gz_iadd (pc := 30) cx qd_M_carry_30 ?_
  refine gz_aload_n (pc := 31) cx qd_M_carry_31 rfl rfl ?_
  refine gz_getI (pc := 32) cx qf_M_37 qd_M_carry_32 (gm_E (by assumption) (by assumption)) rfl rfl ?_
  refine gz_iastore (pc := 35) cx qd_M_carry_35 (by first | exact gm_tb (by assumption) | exact gm_ns | exact gm_cf | exact gm_w (by assumption) | exact gm_nw (by assumption) | exact gm_rs (by assumption) | exact gm_M (by assumption) | exact gm_R (by assumption) (by assumption) | exact gm_za (by decide) (by decide)) rfl e4 (by omega) (by decide) ?_
  refine gz_aload_n (pc := 36) cx qd_M_carry_36 rfl rfl ?_
  refine gz_getR (pc := 37) cx qf_M_11 qd_M_carry_37 (gm_M (by assumption)) rfl rfl (hst _ _ _ rfl) ?_
  refine gz_iload_n (pc := 40) cx qd_M_carry_40 rfl rfl ?_
  refine gz_iconst (v := 2) (pc := 41) cx qd_M_carry_41 (by decide) ?_
  refine gz_iadd (pc := 42) cx qd_M_carry_42 ?_
  refine gz_aload_n (pc := 43) cx qd_M_carry_43 rfl rfl ?_
  refine gz_getI (pc := 44) cx qf_M_42 qd_M_carry_44 (gm_E (by assumption) (by assumption)) rfl rfl ?_
  refine gz_iastore (pc := 47) cx qd_M_carry_47 (by first | exact gm_tb (by assumption) | exact gm_ns | exact gm_cf | exact gm_w (by assumption) | exact gm_nw (by assumption) | exact gm_rs (by assumption) | exact gm_M (by assumption) | exact gm_R (by assumption) (by assumption) | exact gm_za (by decide) (by decide)) rfl e5 (by omega) (by decide) ?_
  refine gz_aload_n (pc := 48) cx qd_M_carry_48 rfl rfl ?_
  refine gz_dup (pc := 49) cx qd_M_carry_49 ?_
  refine gz_getI (pc := 50) cx qf_M_25 qd_M_carry_50 (gm_M (by assumption)) rfl rfl ?_
  refine gz_iconst (v := 1) (pc := 53) cx qd_M_carry_53 (by decide) ?_
  refine gz_iadd (pc := 54) cx qd_M_carry_54 ?_
  refine gz_putI (pc := 55) cx qp_M_25 qd_M_carry_55 (gm_M (by assumption)) rfl rfl ⟨rfl, rfl⟩ (fun h => nomatch h) ?_
  refine gz_return (pc := 58) cx hr qd_M_carry_58 ?_
  refine ⟨rfl, ?_⟩
  simp only [gI1]
  simp [hc, sCarry, nI_succ]
theorem gc_M_tellNews {G : gG} {la : Launch} {S : gS} {a c : Nat} {x : Int32} (ha : a < 121) (hst : gSt G S) (hc : S.1 (5, a, 0) 6 = nI c) (hc8 : c ≤ 8) : gM G la qy_M_tellNews qw_M_tellNews 0 0 0 (gTt G) (gTt G) [.inr (some (5, a, 0)), .inl x] S (fun v S' => v = some (.inl (if x < 7 ∨ nI (7 + 3 * c) ≤ x then 0 else S.1 (6, a, 0) (x - 7).toNatClampNeg)) ∧ S' = S) := by
  refine gM_of (cc := qc_M_tellNews) (maxL := 2) (by decide) rfl (Nat.le_of_ble_eq_true rfl) ?_
  intro E cx hr hnm hcz hsz hEl
  subst hEl
  have e3 : (7 : Int32) + 3 * S.1 (5, a, 0) 6 = nI (7 + 3 * c) := by rw [hc]; exact (congrArg (fun z => (7 : Int32) + z) (pk_mul 3 c)).trans (nI_add 7 (3 * c))
  refine gz_iload_n (pc := 0) cx qd_M_tellNews_0 rfl rfl ?_
  refine gz_bipush (v := 7) (pc := 1) cx qd_M_tellNews_1 (by decide) ?_
  refine gz_icmp_lt (tgt := 19) (pc := 3) cx qd_M_tellNews_3 (by decide) (fun h3 => ?_) (fun h3 => ?_)
  · refine gz_iconst (v := 0) (pc := 19) cx qd_M_tellNews_19 (by decide) ?_
    refine gz_ireturn (pc := 20) cx hr rfl qd_M_tellNews_20 ?_
    refine ⟨?_, rfl⟩
    rw [if_pos (by first | exact Or.inl (by assumption) | exact Or.inr (by rw [← e3]; exact Int32.not_lt.mp (by assumption)))]
  · refine gz_iload_n (pc := 6) cx qd_M_tellNews_6 rfl rfl ?_
    refine gz_bipush (v := 7) (pc := 7) cx qd_M_tellNews_7 (by decide) ?_
    refine gz_iconst (v := 3) (pc := 9) cx qd_M_tellNews_9 (by decide) ?_
    refine gz_aload_n (pc := 10) cx qd_M_tellNews_10 rfl rfl ?_
    refine gz_getI (pc := 11) cx qf_M_25 qd_M_tellNews_11 (gm_M (by assumption)) rfl rfl ?_
    refine gz_imul (pc := 14) cx qd_M_tellNews_14 ?_
    refine gz_iadd (pc := 15) cx qd_M_tellNews_15 ?_
    refine gz_icmp_lt (tgt := 21) (pc := 16) cx qd_M_tellNews_16 (by decide) (fun h16 => ?_) (fun h16 => ?_)
    · obtain ⟨j, hj24, hxj⟩ : ∃ j : Nat, j < 24 ∧ x - 7 = nI j := by
        rw [e3] at h16
        obtain ⟨y, hy, rfl⟩ := nI_of (x := x) (fun q => h3 (Int32.lt_trans q (by decide)))
        have h7 : ¬ y < 7 := fun q => h3 (nI_lt q (by decide))
        have h8 : y < 7 + 3 * c := (nI_ltI hy (by omega)).mp h16
        exact ⟨y - 7, by omega, pk_sub (b := 7) (by omega)⟩
      refine gz_aload_n (pc := 21) cx qd_M_tellNews_21 rfl rfl ?_
      refine gz_getR (pc := 22) cx qf_M_11 qd_M_tellNews_22 (gm_M (by assumption)) rfl rfl (hst _ _ _ rfl) ?_
      refine gz_iload_n (pc := 25) cx qd_M_tellNews_25 rfl rfl ?_
      refine gz_bipush (v := 7) (pc := 26) cx qd_M_tellNews_26 (by decide) ?_
      refine gz_isub (pc := 28) cx qd_M_tellNews_28 ?_
      refine gz_iaload (pc := 29) cx qd_M_tellNews_29 (by first | exact gm_tb (by assumption) | exact gm_ns | exact gm_cf | exact gm_w (by assumption) | exact gm_nw (by assumption) | exact gm_rs (by assumption) | exact gm_M (by assumption) | exact gm_R (by assumption) (by assumption) | exact gm_za (by decide) (by decide)) rfl hxj hj24 (by decide) ?_
      refine gz_ireturn (pc := 30) cx hr rfl qd_M_tellNews_30 ?_
      refine ⟨?_, rfl⟩
      rw [if_neg (fun q => q.elim h3 (fun q => absurd h16 (by rw [e3]; exact Int32.not_lt.mpr q)))]
      rw [hxj, nI_clamp (by omega)]
    · refine gz_iconst (v := 0) (pc := 19) cx qd_M_tellNews_19 (by decide) ?_
      refine gz_ireturn (pc := 20) cx hr rfl qd_M_tellNews_20 ?_
      refine ⟨?_, rfl⟩
      rw [if_pos (by first | exact Or.inl (by assumption) | exact Or.inr (by rw [← e3]; exact Int32.not_lt.mp (by assumption)))]
theorem gc_R_isFor {G : gG} {la : Launch} {S : gS} {i r a : Nat} (hi : i < G.1) (hr4 : r < 4) (ha : a < 121) : gM G la qy_R_isFor qw_R_isFor 0 0 0 (gTt G) (gTt G) [.inr (some (11, i, r)), .inr (some (5, a, 0))] S (fun v S' => v = some (.inl (bI (decide (S.1 (11, i, r) 0 = S.1 (5, a, 0) 3 ∧ S.1 (11, i, r) 1 = S.1 (5, a, 0) 4 ∧ S.1 (11, i, r) 2 = S.1 (5, a, 0) 5)))) ∧ S' = S) := by
  refine gM_of (cc := qc_R_isFor) (maxL := 2) (by decide) rfl (Nat.le_of_ble_eq_true rfl) ?_
  intro E cx hr hnm hcz hsz hEl
  subst hEl
  refine gz_aload_n (pc := 0) cx qd_R_isFor_0 rfl rfl ?_
  refine gz_getI (pc := 1) cx qf_R_7 qd_R_isFor_1 (gm_R (by assumption) (by assumption)) rfl rfl ?_
  refine gz_aload_n (pc := 4) cx qd_R_isFor_4 rfl rfl ?_
  refine gz_getI (pc := 5) cx qf_R_13 qd_R_isFor_5 (gm_M (by assumption)) rfl rfl ?_
  refine gz_icmp_ne (tgt := 37) (pc := 8) cx qd_R_isFor_8 (by decide) (fun h8 => ?_) (fun h8 => ?_)
  · refine gz_iconst (v := 0) (pc := 37) cx qd_R_isFor_37 (by decide) ?_
    refine gz_ireturn (pc := 38) cx hr (by decide) qd_R_isFor_38 ?_
    refine ⟨?_, rfl⟩
    simp_all [bI]
  · refine gz_aload_n (pc := 11) cx qd_R_isFor_11 rfl rfl ?_
    refine gz_getI (pc := 12) cx qf_R_16 qd_R_isFor_12 (gm_R (by assumption) (by assumption)) rfl rfl ?_
    refine gz_aload_n (pc := 15) cx qd_R_isFor_15 rfl rfl ?_
    refine gz_getI (pc := 16) cx qf_R_19 qd_R_isFor_16 (gm_M (by assumption)) rfl rfl ?_
    refine gz_icmp_ne (tgt := 37) (pc := 19) cx qd_R_isFor_19 (by decide) (fun h19 => ?_) (fun h19 => ?_)
    · refine gz_iconst (v := 0) (pc := 37) cx qd_R_isFor_37 (by decide) ?_
      refine gz_ireturn (pc := 38) cx hr (by decide) qd_R_isFor_38 ?_
      refine ⟨?_, rfl⟩
      simp_all [bI]
    · refine gz_aload_n (pc := 22) cx qd_R_isFor_22 rfl rfl ?_
      refine gz_getI (pc := 23) cx qf_R_20 qd_R_isFor_23 (gm_R (by assumption) (by assumption)) rfl rfl ?_
      refine gz_aload_n (pc := 26) cx qd_R_isFor_26 rfl rfl ?_
      refine gz_getI (pc := 27) cx qf_R_23 qd_R_isFor_27 (gm_M (by assumption)) rfl rfl ?_
      refine gz_icmp_ne (tgt := 37) (pc := 30) cx qd_R_isFor_30 (by decide) (fun h30 => ?_) (fun h30 => ?_)
      · refine gz_iconst (v := 0) (pc := 37) cx qd_R_isFor_37 (by decide) ?_
        refine gz_ireturn (pc := 38) cx hr (by decide) qd_R_isFor_38 ?_
        refine ⟨?_, rfl⟩
        simp_all [bI]
      · refine gz_iconst (v := 1) (pc := 33) cx qd_R_isFor_33 (by decide) ?_
        refine gz_goto (tgt := 38) (pc := 34) cx qd_R_isFor_34 (by decide) ?_
        refine gz_ireturn (pc := 38) cx hr (by decide) qd_R_isFor_38 ?_
        refine ⟨?_, rfl⟩
        simp_all [bI]
theorem gc_F_next {G : gG} {la : Launch} {S : gS} {b z a : Nat} (hb : b < 2) (hw : S.2 (3, 0, 0) 0 = some (4, b, 0)) (hz : S.1 (3, 0, 0) 3 = nI z) (hz60 : z < 60) (hst : gSt G S) (ha : S.2 (4, b, 0) z = some (5, a, 0)) : gM G la qy_F_next qw_F_next 0 0 0 (gTt G) (gTt G) [.inr (some (3, 0, 0))] S (fun v S' => v = some (.inr (some (5, a, 0))) ∧ S' = gI S (3, 0, 0) 3 (nI (z + 1))) := by
  refine gM_of (cc := qc_F_next) (maxL := 1) (by decide) rfl (Nat.le_of_ble_eq_true rfl) ?_
  intro E cx hr hnm hcz hsz hEl
  subst hEl
  refine gz_aload_n (pc := 0) cx qd_F_next_0 rfl rfl ?_
  refine gz_getI (pc := 1) cx qf_F_23 qd_F_next_1 gm_F rfl rfl ?_
  refine gz_bipush (v := 60) (pc := 4) cx qd_F_next_4 (by decide) ?_
  refine gz_icmp_lt (tgt := 14) (pc := 6) cx qd_F_next_6 (by decide) (fun _ => ?_) (fun h6 => absurd (show _ < (60 : Int32) by rw [hz]; exact nI_lt hz60 (by decide)) h6)
  refine gz_aload_n (pc := 14) cx qd_F_next_14 rfl rfl ?_
  refine gz_dup (pc := 15) cx qd_F_next_15 ?_
  refine gz_getI (pc := 16) cx qf_F_23 qd_F_next_16 gm_F rfl rfl ?_
  refine gz_iconst (v := 1) (pc := 19) cx qd_F_next_19 (by decide) ?_
  refine gz_iadd (pc := 20) cx qd_F_next_20 ?_
  refine gz_putI (pc := 21) cx qp_F_23 qd_F_next_21 gm_F rfl rfl ⟨rfl, rfl⟩ (fun h => nomatch h) ?_
  refine gz_aload_n (pc := 24) cx qd_F_next_24 rfl rfl ?_
  refine gz_getR (pc := 25) cx qf_F_11 qd_F_next_25 gm_F rfl rfl (by assumption) ?_
  refine gz_aload_n (pc := 28) cx qd_F_next_28 rfl rfl ?_
  refine gz_getI (pc := 29) cx qf_F_23 qd_F_next_29 gm_F rfl rfl ?_
  refine gz_iconst (v := 1) (pc := 32) cx qd_F_next_32 (by decide) ?_
  refine gz_isub (pc := 33) cx qd_F_next_33 ?_
  refine gz_aaload (pc := 34) cx qd_F_next_34 (by first | exact gm_tb (by assumption) | exact gm_ns | exact gm_cf | exact gm_w (by assumption) | exact gm_nw (by assumption) | exact gm_rs (by assumption) | exact gm_M (by assumption) | exact gm_R (by assumption) (by assumption) | exact gm_za (by decide) (by decide)) rfl ⟨by decide, by decide, rfl⟩ ha (show _ = nI z by simp only [gI1]; simp [hz, g_sub1]) (by assumption) (by decide) ?_
  refine gz_areturn (pc := 35) cx hr qd_F_next_35 ?_
  exact ⟨rfl, by rw [hz, nI_succ]⟩
theorem gc_F_nextFull {G : gG} {la : Launch} {S : gS} (hst : gSt G S) (hz : S.1 (3, 0, 0) 3 = nI 60) : gM G la qy_F_next qw_F_next 0 0 0 (gTt G) (gTt G) [.inr (some (3, 0, 0))] S (fun v S' => v = some (.inr (some (5, 120, 0))) ∧ S' = S) := by
  refine gM_of (cc := qc_F_next) (maxL := 1) (by decide) rfl (Nat.le_of_ble_eq_true rfl) ?_
  intro E cx hr hnm hcz hsz hEl
  subst hEl
  refine gz_aload_n (pc := 0) cx qd_F_next_0 rfl rfl ?_
  refine gz_getI (pc := 1) cx qf_F_23 qd_F_next_1 gm_F rfl rfl ?_
  refine gz_bipush (v := 60) (pc := 4) cx qd_F_next_4 (by decide) ?_
  refine gz_icmp_lt (tgt := 14) (pc := 6) cx qd_F_next_6 (by decide) (fun h6 => absurd h6 (by rw [hz]; decide)) (fun _ => ?_)
  refine gz_aload_n (pc := 9) cx qd_F_next_9 rfl rfl ?_
  refine gz_getR (pc := 10) cx qf_F_19 qd_F_next_10 gm_F rfl rfl (hst _ _ _ rfl) ?_
  refine gz_areturn (pc := 13) cx hr qd_F_next_13 ?_
  exact ⟨rfl, rfl⟩
theorem gc_F_land {G : gG} {la : Launch} {S : gS} {b c : Nat} (hw : S.2 (3, 0, 0) 0 = some (4, b, 0)) (hl : S.2 (3, 0, 0) 1 = some (4, c, 0)) : gM G la qy_F_land qw_F_land 0 0 0 (gTt G) (gTt G) [.inr (some (3, 0, 0))] S (fun v S' => v = some (.inl (S.1 (3, 0, 0) 3)) ∧ S' = gI (gX (gX S (3, 0, 0) 1 (some (4, b, 0))) (3, 0, 0) 0 (some (4, c, 0))) (3, 0, 0) 3 0) := by
  refine gM_of (cc := qc_F_land) (maxL := 3) (by decide) rfl (Nat.le_of_ble_eq_true rfl) ?_
  intro E cx hr hnm hcz hsz hEl
  subst hEl
  refine gz_aload_n (pc := 0) cx qd_F_land_0 rfl rfl ?_
  refine gz_getR (pc := 1) cx qf_F_15 qd_F_land_1 gm_F rfl rfl (by assumption) ?_
  refine gz_astore_n (pc := 4) cx qd_F_land_4 rfl (Nat.le_of_ble_eq_true rfl) ?_
  refine gz_aload_n (pc := 5) cx qd_F_land_5 rfl rfl ?_
  refine gz_aload_n (pc := 6) cx qd_F_land_6 rfl rfl ?_
  refine gz_getR (pc := 7) cx qf_F_11 qd_F_land_7 gm_F rfl rfl (by assumption) ?_
  refine gz_putR (pc := 10) cx qp_F_15 qd_F_land_10 gm_F rfl rfl (fun x => by cases x <;> exact ⟨rfl, rfl⟩) (fun h => nomatch h) ?_
  refine gz_aload_n (pc := 13) cx qd_F_land_13 rfl rfl ?_
  refine gz_aload_n (pc := 14) cx qd_F_land_14 rfl rfl ?_
  refine gz_putR (pc := 15) cx qp_F_11 qd_F_land_15 gm_F rfl rfl (fun x => by cases x <;> exact ⟨rfl, rfl⟩) (fun h => nomatch h) ?_
  refine gz_aload_n (pc := 18) cx qd_F_land_18 rfl rfl ?_
  refine gz_getI (pc := 19) cx qf_F_23 qd_F_land_19 gm_F rfl rfl ?_
  refine gz_istore_n (pc := 22) cx qd_F_land_22 rfl (Nat.le_of_ble_eq_true rfl) ?_
  refine gz_aload_n (pc := 23) cx qd_F_land_23 rfl rfl ?_
  refine gz_iconst (v := 0) (pc := 24) cx qd_F_land_24 (by decide) ?_
  refine gz_putI (pc := 25) cx qp_F_23 qd_F_land_25 gm_F rfl rfl ⟨rfl, rfl⟩ (fun h => nomatch h) ?_
  refine gz_iload_n (pc := 28) cx qd_F_land_28 rfl rfl ?_
  refine gz_ireturn (pc := 29) cx hr rfl qd_F_land_29 ?_
  exact ⟨rfl, rfl⟩
theorem gc_N_raiseScore {G : gG} {la : Launch} {S : gS} {i : Nat} {x : Int32} (hi : i < G.1) : gM G la qy_N_raiseScore qw_N_raiseScore 1 0 0 (gTt G) (gTt G) [.inr (some (7, i, 0)), .inl x] S (fun v S' => v = none ∧ S' = gI S (7, i, 0) 7 (if S.1 (7, i, 0) 7 + x < 4 then S.1 (7, i, 0) 7 + x else 4)) := by
  refine gM_of (cc := qc_N_raiseScore) (maxL := 2) (by decide) rfl (Nat.le_of_ble_eq_true rfl) ?_
  intro E cx hr hnm hcz hsz hEl
  subst hEl
  refine gz_aload_n (pc := 0) cx qd_N_raiseScore_0 rfl rfl ?_
  refine gz_iconst (v := 4) (pc := 1) cx qd_N_raiseScore_1 (by decide) ?_
  refine gz_aload_n (pc := 2) cx qd_N_raiseScore_2 rfl rfl ?_
  refine gz_getI (pc := 3) cx qf_N_50 qd_N_raiseScore_3 (gm_N (by assumption)) rfl rfl ?_
  refine gz_iload_n (pc := 6) cx qd_N_raiseScore_6 rfl rfl ?_
  refine gz_iadd (pc := 7) cx qd_N_raiseScore_7 ?_
  refine gz_min (pc := 8) cx qm_N_184 qm_min_s qm_i qm_min_c qd_N_raiseScore_8 (by decide) rfl (Nat.le_of_ble_eq_true rfl) ⟨Nat.zero_le _, Nat.zero_le _⟩ ?_
  refine gz_putI (pc := 11) cx qp_N_50 qd_N_raiseScore_11 (gm_N (by assumption)) rfl rfl ⟨rfl, rfl⟩ (fun h => nomatch h) ?_
  refine gz_return (pc := 14) cx hr qd_N_raiseScore_14 ?_
  exact ⟨rfl, rfl⟩
theorem gc_N_isOfProbe {G : gG} {la : Launch} {S : gS} {i a : Nat} (hi : i < G.1) (ha : a < 121) : gM G la qy_N_isOfProbe qw_N_isOfProbe 0 0 0 (gTt G) (gTt G) [.inr (some (7, i, 0)), .inr (some (5, a, 0))] S (fun v S' => v = some (.inl (bI (decide (S.1 (7, i, 0) 11 ≠ -1 ∧ S.1 (5, a, 0) 3 = S.1 (7, i, 0) 10)))) ∧ S' = S) := by
  refine gM_of (cc := qc_N_isOfProbe) (maxL := 2) (by decide) rfl (Nat.le_of_ble_eq_true rfl) ?_
  intro E cx hr hnm hcz hsz hEl
  subst hEl
  refine gz_aload_n (pc := 0) cx qd_N_isOfProbe_0 rfl rfl ?_
  refine gz_getI (pc := 1) cx qf_N_62 qd_N_isOfProbe_1 (gm_N (by assumption)) rfl rfl ?_
  refine gz_iconst (v := -1) (pc := 4) cx qd_N_isOfProbe_4 (by decide) ?_
  refine gz_icmp_eq (tgt := 23) (pc := 5) cx qd_N_isOfProbe_5 (by decide) (fun h5 => ?_) (fun h5 => ?_)
  · refine gz_iconst (v := 0) (pc := 23) cx qd_N_isOfProbe_23 (by decide) ?_
    refine gz_ireturn (pc := 24) cx hr (by decide) qd_N_isOfProbe_24 ?_
    refine ⟨?_, rfl⟩
    simp_all [bI]
  · refine gz_aload_n (pc := 8) cx qd_N_isOfProbe_8 rfl rfl ?_
    refine gz_getI (pc := 9) cx qf_N_141 qd_N_isOfProbe_9 (gm_M (by assumption)) rfl rfl ?_
    refine gz_aload_n (pc := 12) cx qd_N_isOfProbe_12 rfl rfl ?_
    refine gz_getI (pc := 13) cx qf_N_59 qd_N_isOfProbe_13 (gm_N (by assumption)) rfl rfl ?_
    refine gz_icmp_ne (tgt := 23) (pc := 16) cx qd_N_isOfProbe_16 (by decide) (fun h16 => ?_) (fun h16 => ?_)
    · refine gz_iconst (v := 0) (pc := 23) cx qd_N_isOfProbe_23 (by decide) ?_
      refine gz_ireturn (pc := 24) cx hr (by decide) qd_N_isOfProbe_24 ?_
      refine ⟨?_, rfl⟩
      simp_all [bI]
    · refine gz_iconst (v := 1) (pc := 19) cx qd_N_isOfProbe_19 (by decide) ?_
      refine gz_goto (tgt := 24) (pc := 20) cx qd_N_isOfProbe_20 (by decide) ?_
      refine gz_ireturn (pc := 24) cx hr (by decide) qd_N_isOfProbe_24 ?_
      refine ⟨?_, rfl⟩
      simp_all [bI]
def bitC (x0 : Int32) : Int32 :=
  let u := fun (x y : Int32) => (x.toUInt32 >>> (y.toUInt32 &&& Int32.toUInt32 31)).toInt32
  let x1 := x0 - (u x0 1 &&& 1431655765)
  let x2 := (x1 &&& 858993459) + (u x1 2 &&& 858993459)
  let x3 := (x2 + u x2 4) &&& 252645135
  let x4 := x3 + u x3 8
  let x5 := x4 + u x4 16
  x5 &&& 63
theorem gc_J_bitCount {G : gG} {la : Launch} {S : gS} {x : Int32}  : gM G la qy_J_bitCount qw_J_bitCount 0 0 0 (gTt G) (gTt G) [.inl x] S (fun v S' => v = some (.inl (bitC x)) ∧ S' = S) := by
  refine gM_of (cc := qc_J_bitCount) (maxL := 1) (by decide) rfl (Nat.le_of_ble_eq_true rfl) ?_
  intro E cx hr hnm hcz hsz hEl
  subst hEl
  refine gz_iload_n (pc := 0) cx qd_J_bitCount_0 rfl rfl ?_
  refine gz_iload_n (pc := 1) cx qd_J_bitCount_1 rfl rfl ?_
  refine gz_iconst (v := 1) (pc := 2) cx qd_J_bitCount_2 (by decide) ?_
  refine gz_iushr (pc := 3) cx qd_J_bitCount_3 rfl ?_
  refine gz_ldcw (pc := 4) cx qk_J_265 qd_J_bitCount_4 ?_
  refine gz_iand (pc := 7) cx qd_J_bitCount_7 ?_
  refine gz_isub (pc := 8) cx qd_J_bitCount_8 ?_
  refine gz_istore_n (pc := 9) cx qd_J_bitCount_9 rfl (Nat.le_of_ble_eq_true rfl) ?_
  refine gz_iload_n (pc := 10) cx qd_J_bitCount_10 rfl rfl ?_
  refine gz_ldcw (pc := 11) cx qk_J_266 qd_J_bitCount_11 ?_
  refine gz_iand (pc := 14) cx qd_J_bitCount_14 ?_
  refine gz_iload_n (pc := 15) cx qd_J_bitCount_15 rfl rfl ?_
  refine gz_iconst (v := 2) (pc := 16) cx qd_J_bitCount_16 (by decide) ?_
  refine gz_iushr (pc := 17) cx qd_J_bitCount_17 rfl ?_
  refine gz_ldcw (pc := 18) cx qk_J_266 qd_J_bitCount_18 ?_
  refine gz_iand (pc := 21) cx qd_J_bitCount_21 ?_
  refine gz_iadd (pc := 22) cx qd_J_bitCount_22 ?_
  refine gz_istore_n (pc := 23) cx qd_J_bitCount_23 rfl (Nat.le_of_ble_eq_true rfl) ?_
  refine gz_iload_n (pc := 24) cx qd_J_bitCount_24 rfl rfl ?_
  refine gz_iload_n (pc := 25) cx qd_J_bitCount_25 rfl rfl ?_
  refine gz_iconst (v := 4) (pc := 26) cx qd_J_bitCount_26 (by decide) ?_
  refine gz_iushr (pc := 27) cx qd_J_bitCount_27 rfl ?_
  refine gz_iadd (pc := 28) cx qd_J_bitCount_28 ?_
  refine gz_ldcw (pc := 29) cx qk_J_267 qd_J_bitCount_29 ?_
  refine gz_iand (pc := 32) cx qd_J_bitCount_32 ?_
  refine gz_istore_n (pc := 33) cx qd_J_bitCount_33 rfl (Nat.le_of_ble_eq_true rfl) ?_
  refine gz_iload_n (pc := 34) cx qd_J_bitCount_34 rfl rfl ?_
  refine gz_iload_n (pc := 35) cx qd_J_bitCount_35 rfl rfl ?_
  refine gz_bipush (v := 8) (pc := 36) cx qd_J_bitCount_36 (by decide) ?_
  refine gz_iushr (pc := 38) cx qd_J_bitCount_38 rfl ?_
  refine gz_iadd (pc := 39) cx qd_J_bitCount_39 ?_
  refine gz_istore_n (pc := 40) cx qd_J_bitCount_40 rfl (Nat.le_of_ble_eq_true rfl) ?_
  refine gz_iload_n (pc := 41) cx qd_J_bitCount_41 rfl rfl ?_
  refine gz_iload_n (pc := 42) cx qd_J_bitCount_42 rfl rfl ?_
  refine gz_bipush (v := 16) (pc := 43) cx qd_J_bitCount_43 (by decide) ?_
  refine gz_iushr (pc := 45) cx qd_J_bitCount_45 rfl ?_
  refine gz_iadd (pc := 46) cx qd_J_bitCount_46 ?_
  refine gz_istore_n (pc := 47) cx qd_J_bitCount_47 rfl (Nat.le_of_ble_eq_true rfl) ?_
  refine gz_iload_n (pc := 48) cx qd_J_bitCount_48 rfl rfl ?_
  refine gz_bipush (v := 63) (pc := 49) cx qd_J_bitCount_49 (by decide) ?_
  refine gz_iand (pc := 51) cx qd_J_bitCount_51 ?_
  refine gz_ireturn (pc := 52) cx hr rfl qd_J_bitCount_52 ?_
  exact ⟨rfl, rfl⟩
def sTellE (S : gS) (i j : Nat) (x : Int32) : Int32 := if x = 0 then S.1 (9, i, j) 0 else if x = 1 then S.1 (9, i, j) 1 else if x = 2 then S.1 (9, i, j) 2 else if x = 3 then bitC (S.1 (9, i, j) 3) else 0
theorem gc_E_tell {G : gG} {la : Launch} {S : gS} {i j : Nat} {x : Int32} (hi : i < G.1) (hj : j < G.1) : gM G la qy_E_tell qw_E_tell 1 0 0 (gTt G) (gTt G) [.inr (some (9, i, j)), .inl x] S (fun v S' => v = some (.inl (sTellE S i j x)) ∧ S' = S) := by
  refine gM_of (cc := qc_E_tell) (maxL := 2) (by decide) rfl (Nat.le_of_ble_eq_true rfl) ?_
  intro E cx hr hnm hcz hsz hEl
  subst hEl
  have hI := hi
  refine gz_iload_n (pc := 0) cx qd_E_tell_0 rfl rfl ?_
  refine gz_switch (pc := 1) cx 3 (fun i => [32, 37, 42, 47].getD i 0) 55 qd_E_tell_1 (by decide) (by intro i hi; match i, hi with
    | 0, _ => exact ⟨_, rfl, by decide⟩
    | 1, _ => exact ⟨_, rfl, by decide⟩
    | 2, _ => exact ⟨_, rfl, by decide⟩
    | 3, _ => exact ⟨_, rfl, by decide⟩
    | i + 4, hi => exact absurd hi (by omega)) (by decide) (fun i hi hx => ?_) (fun hx => ?_)
  · match i, hi with
    | 0, _ =>
      subst hx
      refine gz_aload_n (pc := 32) cx qd_E_tell_32 rfl rfl ?_
      refine gz_getI (pc := 33) cx qf_E_9 qd_E_tell_33 (gm_E (by assumption) (by assumption)) rfl rfl ?_
      refine gz_ireturn (pc := 36) cx hr rfl qd_E_tell_36 ?_
      exact ⟨rfl, rfl⟩
    | 1, _ =>
      subst hx
      refine gz_aload_n (pc := 37) cx qd_E_tell_37 rfl rfl ?_
      refine gz_getI (pc := 38) cx qf_E_15 qd_E_tell_38 (gm_E (by assumption) (by assumption)) rfl rfl ?_
      refine gz_ireturn (pc := 41) cx hr rfl qd_E_tell_41 ?_
      exact ⟨rfl, rfl⟩
    | 2, _ =>
      subst hx
      refine gz_aload_n (pc := 42) cx qd_E_tell_42 rfl rfl ?_
      refine gz_getI (pc := 43) cx qf_E_18 qd_E_tell_43 (gm_E (by assumption) (by assumption)) rfl rfl ?_
      refine gz_ireturn (pc := 46) cx hr rfl qd_E_tell_46 ?_
      exact ⟨rfl, rfl⟩
    | 3, _ =>
      subst hx
      refine gz_aload_n (pc := 47) cx qd_E_tell_47 rfl rfl ?_
      refine gz_getI (pc := 48) cx qf_E_21 qd_E_tell_48 (gm_E (by assumption) (by assumption)) rfl rfl ?_
      refine gz_callS (pc := 51) cx qs_E_34 qd_E_tell_51 (gc_J_bitCount) (by decide) rfl rfl rfl (Nat.le_of_ble_eq_true rfl) ⟨Nat.zero_le _, Nat.zero_le _⟩ ?_
      rintro _ _ ⟨rfl, rfl⟩
      refine gz_ireturn (pc := 54) cx hr rfl qd_E_tell_54 ?_
      exact ⟨rfl, rfl⟩
    | i + 4, hi => exact absurd hi (by omega)
  · refine gz_iconst (v := 0) (pc := 55) cx qd_E_tell_55 (by decide) ?_
    refine gz_ireturn (pc := 56) cx hr rfl qd_E_tell_56 ?_
    have h0 : x ≠ 0 := hx 0 (by decide)
    have h1 : x ≠ 1 := hx 1 (by decide)
    have h2 : x ≠ 2 := hx 2 (by decide)
    have h3 : x ≠ 3 := hx 3 (by decide)
    exact ⟨by rw [sTellE, if_neg h0, if_neg h1, if_neg h2, if_neg h3], rfl⟩
end
section
theorem g_swap {A B : Prop} (h : B = A) (b : B) : A := h ▸ b
theorem gc_N_mostToSend {G : gG} {la : Launch} {S : gS} {i : Nat} {mk : Int32} {l : List Nat} (hi : i < G.1) (hK : cK G S) (hmk : isMk mk l) : gM G la qy_N_mostToSend qw_N_mostToSend 0 0 0 (gTt G) (gTt G) [.inr (some (7, i, 0)), .inl mk] S (fun v S' => v = some (.inl (mB (mBest (qm S i l) G.1))) ∧ S' = S) := by
  refine gM_of (cc := qc_N_mostToSend) (maxL := 5) (by decide) rfl (Nat.le_of_ble_eq_true rfl) ?_
  intro E cx hr hnm hcz hsz hEl
  subst hEl
  obtain ⟨hst, h8, h2, hid, -⟩ := hK
  have hcnt := (hid i hi).2
  obtain ⟨y, hy, rfl, hm⟩ := hmk
  suffices h : ∀ k, k ≤ G.1 → (fun k => gZ G E 0 0 (gEnd G E 0 0 (gTt G) (fun v S' => v = some (.inl (mB (mBest (qm S i l) G.1))) ∧ S' = S)) (gTt G) 7 [some (.inr (some (7, i, 0))), some (.inl (nI y)), some (.inl (mB (mBest (qm S i l) k))), some (.inl (mV (qm S i l) (mBest (qm S i l) k))), some (.inl (nI k))] [] S) k by
    refine gz_iconst (v := -1) (pc := 0) cx qd_N_mostToSend_0 (by decide) ?_
    refine gz_istore_n (pc := 1) cx qd_N_mostToSend_1 rfl (Nat.le_of_ble_eq_true rfl) ?_
    refine gz_iconst (v := 0) (pc := 2) cx qd_N_mostToSend_2 (by decide) ?_
    refine gz_istore_n (pc := 3) cx qd_N_mostToSend_3 rfl (Nat.le_of_ble_eq_true rfl) ?_
    refine gz_iconst (v := 0) (pc := 4) cx qd_N_mostToSend_4 (by decide) ?_
    refine gz_istore (pc := 5) cx qd_N_mostToSend_5 (Nat.le_of_ble_eq_true rfl) ?_
    exact h 0 (Nat.zero_le _)
  refine g_upto ?_ ?_
  · refine gz_iload (pc := 7) cx qd_N_mostToSend_7 rfl ?_
    refine gz_aload_n (pc := 9) cx qd_N_mostToSend_9 rfl rfl ?_
    refine gz_getI (pc := 10) cx qf_N_21 qd_N_mostToSend_10 (gm_N (by assumption)) rfl rfl ?_
    refine gz_icmp_ge (tgt := 59) (pc := 13) cx qd_N_mostToSend_13 (by decide) (fun _ => ?_) (fun h13 => absurd (by rw [hcnt]; exact Int32.le_refl _) h13)
    refine gz_iload_n (pc := 59) cx qd_N_mostToSend_59 rfl rfl ?_
    refine gz_ireturn (pc := 60) cx hr rfl qd_N_mostToSend_60 ?_
    exact ⟨rfl, rfl⟩
  · intro k hk ih
    have hk8 : k < 8 := by omega
    refine gz_iload (pc := 7) cx qd_N_mostToSend_7 rfl ?_
    refine gz_aload_n (pc := 9) cx qd_N_mostToSend_9 rfl rfl ?_
    refine gz_getI (pc := 10) cx qf_N_21 qd_N_mostToSend_10 (gm_N (by assumption)) rfl rfl ?_
    refine gz_icmp_ge (tgt := 59) (pc := 13) cx qd_N_mostToSend_13 (by decide) (fun h13 => absurd h13 (by rw [hcnt]; exact nI_ge hk (by omega))) (fun _ => ?_)
    refine gz_iload_n (pc := 16) cx qd_N_mostToSend_16 rfl rfl ?_
    refine gz_iload (pc := 17) cx qd_N_mostToSend_17 rfl ?_
    refine gz_ishr (pc := 19) cx qd_N_mostToSend_19 ?_
    refine gz_iconst (v := 1) (pc := 20) cx qd_N_mostToSend_20 (by decide) ?_
    refine gz_iand (pc := 21) cx qd_N_mostToSend_21 ?_
    refine gz_if_ne (tgt := 53) (pc := 22) cx qd_N_mostToSend_22 (by decide) (fun h22 => ?_) (fun h22 => ?_)
    · skip
      refine gz_iinc (pc := 53) cx qd_N_mostToSend_53 rfl (g_inc k) ?_
      refine gz_goto (tgt := 7) (pc := 56) cx qd_N_mostToSend_56 (by decide) ?_
      refine g_swap ?_ ih
      have e : mBest (qm S i l) (k + 1) = mBest (qm S i l) k := by
        have hin : k ∈ l := Classical.byContradiction (fun q => h22 ((hm k hk8).mpr q))
        have hq : qm S i l k = 0 := if_pos hin
        rw [mBest_step, hq, if_neg]
        cases hb : mBest (qm S i l) k with
        | none => exact Int32.lt_irrefl
        | some b => exact Int32.lt_asymm (mBest_lt hb).2
      rw [e]
      rfl
    · refine gz_aload_n (pc := 25) cx qd_N_mostToSend_25 rfl rfl ?_
      refine gz_getR (pc := 26) cx qf_N_30 qd_N_mostToSend_26 (gm_N (by assumption)) rfl rfl (hst _ _ _ rfl) ?_
      refine gz_iload (pc := 29) cx qd_N_mostToSend_29 rfl ?_
      refine gz_aaload (pc := 31) cx qd_N_mostToSend_31 (by first | exact gm_tb (by assumption) | exact gm_ns | exact gm_cf | exact gm_w (by assumption) | exact gm_nw (by assumption) | exact gm_rs (by assumption) | exact gm_M (by assumption) | exact gm_R (by assumption) (by assumption) | exact gm_za (by decide) (by decide)) rfl ⟨by decide, by decide, rfl⟩ (hst _ _ _ rfl) rfl (by assumption) (by omega) ?_
      refine gz_getI (pc := 32) cx qf_N_122 qd_N_mostToSend_32 (gm_E (by assumption) (by assumption)) rfl rfl ?_
      refine gz_iload_n (pc := 35) cx qd_N_mostToSend_35 rfl rfl ?_
      refine gz_icmp_le (tgt := 53) (pc := 36) cx qd_N_mostToSend_36 (by decide) (fun h36 => ?_) (fun h36 => ?_)
      · skip
        refine gz_iinc (pc := 53) cx qd_N_mostToSend_53 rfl (g_inc k) ?_
        refine gz_goto (tgt := 7) (pc := 56) cx qd_N_mostToSend_56 (by decide) ?_
        refine g_swap ?_ ih
        have hni : k ∉ l := (hm k hk8).mp h22
        have hq : qm S i l k = S.1 (9, i, k) 4 := if_neg hni
        have e : mBest (qm S i l) (k + 1) = mBest (qm S i l) k := by
          rw [mBest_step, hq, if_neg (Int32.not_lt.mpr h36)]
        rw [e]
        rfl
      · refine gz_iload (pc := 39) cx qd_N_mostToSend_39 rfl ?_
        refine gz_istore_n (pc := 41) cx qd_N_mostToSend_41 rfl (Nat.le_of_ble_eq_true rfl) ?_
        refine gz_aload_n (pc := 42) cx qd_N_mostToSend_42 rfl rfl ?_
        refine gz_getR (pc := 43) cx qf_N_30 qd_N_mostToSend_43 (gm_N (by assumption)) rfl rfl (hst _ _ _ rfl) ?_
        refine gz_iload (pc := 46) cx qd_N_mostToSend_46 rfl ?_
        refine gz_aaload (pc := 48) cx qd_N_mostToSend_48 (by first | exact gm_tb (by assumption) | exact gm_ns | exact gm_cf | exact gm_w (by assumption) | exact gm_nw (by assumption) | exact gm_rs (by assumption) | exact gm_M (by assumption) | exact gm_R (by assumption) (by assumption) | exact gm_za (by decide) (by decide)) rfl ⟨by decide, by decide, rfl⟩ (hst _ _ _ rfl) rfl (by assumption) (by omega) ?_
        refine gz_getI (pc := 49) cx qf_N_122 qd_N_mostToSend_49 (gm_E (by assumption) (by assumption)) rfl rfl ?_
        refine gz_istore_n (pc := 52) cx qd_N_mostToSend_52 rfl (Nat.le_of_ble_eq_true rfl) ?_
        skip
        refine gz_iinc (pc := 53) cx qd_N_mostToSend_53 rfl (g_inc k) ?_
        refine gz_goto (tgt := 7) (pc := 56) cx qd_N_mostToSend_56 (by decide) ?_
        refine g_swap ?_ ih
        have hni : k ∉ l := (hm k hk8).mp h22
        have hq : qm S i l k = S.1 (9, i, k) 4 := if_neg hni
        have e : mBest (qm S i l) (k + 1) = some k := by
          rw [mBest_step, hq, if_pos (Int32.not_le.mp h36)]
        rw [e, ← hq]
        rfl
theorem gc_N_loadTable {G : gG} {la : Launch} {S : gS} {i a : Nat} (hi : i < G.1) (ha : a < 121) (hK : cK G S) (hc : S.1 (5, a, 0) 6 = 0) : gM G la qy_N_loadTable qw_N_loadTable 1 0 0 (gTt G) (gTt G) [.inr (some (7, i, 0)), .inr (some (5, a, 0))] S (fun v S' => v = none ∧ S' = sLoad a i (mTab S i G.1) 0 S) := by
  refine gM_of (cc := qc_N_loadTable) (maxL := 3) (by decide) rfl (Nat.le_of_ble_eq_true rfl) ?_
  intro E cx hr hnm hcz hsz hEl
  subst hEl
  have h8 := hK.2.1
  suffices h : ∀ k, k ≤ G.1 → (fun k => gZ G E 0 0 (gEnd G E 0 0 (gTt G) (fun v S' => v = none ∧ S' = sLoad a i (mTab S i G.1) 0 S)) (gTt G) 2 [some (.inr (some (7, i, 0))), some (.inr (some (5, a, 0))), some (.inl (nI k))] [] (sLoad a i (mTab S i k) 0 S)) k by
    refine gz_iconst (v := 0) (pc := 0) cx qd_N_loadTable_0 (by decide) ?_
    refine gz_istore_n (pc := 1) cx qd_N_loadTable_1 rfl (Nat.le_of_ble_eq_true rfl) ?_
    exact h 0 (Nat.zero_le _)
  refine g_upto ?_ ?_
  · obtain ⟨hst, -, -, hid, -⟩ := (hK.load : cK G (sLoad a i (mTab S i G.1) 0 S))
    have hcnt := (hid i hi).2
    refine gz_iload_n (pc := 2) cx qd_N_loadTable_2 rfl rfl ?_
    refine gz_aload_n (pc := 3) cx qd_N_loadTable_3 rfl rfl ?_
    refine gz_getI (pc := 4) cx qf_N_21 qd_N_loadTable_4 (gm_N (by assumption)) rfl rfl ?_
    refine gz_icmp_ge (tgt := 39) (pc := 7) cx qd_N_loadTable_7 (by decide) (fun _ => ?_) (fun h7 => absurd (by rw [hcnt]; exact Int32.le_refl _) h7)
    refine gz_return (pc := 39) cx hr qd_N_loadTable_39 ?_
    exact ⟨rfl, rfl⟩
  · intro k hk ih
    obtain ⟨hst, -, -, hid, -⟩ := (hK.load : cK G (sLoad a i (mTab S i k) 0 S))
    have hcnt := (hid i hi).2
    have hlen := mTab_len S i k
    have hcc : (sLoad a i (mTab S i k) 0 S).1 (5, a, 0) 6 = nI (mTab S i k).length := by rw [sLoad_c (c := 0) hc, Nat.zero_add]
    have hso : (sLoad a i (mTab S i k) 0 S).1 (9, i, k) 0 = S.1 (9, i, k) 0 := sLoad_off (by simp) (fun q => by cases q)
    refine gz_iload_n (pc := 2) cx qd_N_loadTable_2 rfl rfl ?_
    refine gz_aload_n (pc := 3) cx qd_N_loadTable_3 rfl rfl ?_
    refine gz_getI (pc := 4) cx qf_N_21 qd_N_loadTable_4 (gm_N (by assumption)) rfl rfl ?_
    refine gz_icmp_ge (tgt := 39) (pc := 7) cx qd_N_loadTable_7 (by decide) (fun h7 => absurd h7 (by rw [hcnt]; exact nI_ge hk (by omega))) (fun _ => ?_)
    refine gz_aload_n (pc := 10) cx qd_N_loadTable_10 rfl rfl ?_
    refine gz_getR (pc := 11) cx qf_N_30 qd_N_loadTable_11 (gm_N (by assumption)) rfl rfl (hst _ _ _ rfl) ?_
    refine gz_iload_n (pc := 14) cx qd_N_loadTable_14 rfl rfl ?_
    refine gz_aaload (pc := 15) cx qd_N_loadTable_15 (by first | exact gm_tb (by assumption) | exact gm_ns | exact gm_cf | exact gm_w (by assumption) | exact gm_nw (by assumption) | exact gm_rs (by assumption) | exact gm_M (by assumption) | exact gm_R (by assumption) (by assumption) | exact gm_za (by decide) (by decide)) rfl ⟨by decide, by decide, rfl⟩ (hst _ _ _ rfl) rfl (by assumption) (by omega) ?_
    refine gz_getI (pc := 16) cx qf_N_86 qd_N_loadTable_16 (gm_E (by assumption) (by assumption)) rfl rfl ?_
    refine gz_if_eq (tgt := 33) (pc := 19) cx qd_N_loadTable_19 (by decide) (fun h19 => ?_) (fun h19 => ?_)
    · refine gz_iinc (pc := 33) cx qd_N_loadTable_33 rfl (g_inc k) ?_
      refine gz_goto (tgt := 2) (pc := 36) cx qd_N_loadTable_36 (by decide) ?_
      refine g_swap ?_ ih
      rw [hso] at h19
      rw [mTab_s, if_pos h19]
      rfl
    · refine gz_aload_n (pc := 22) cx qd_N_loadTable_22 rfl rfl ?_
      refine gz_iload_n (pc := 23) cx qd_N_loadTable_23 rfl rfl ?_
      refine gz_aload_n (pc := 24) cx qd_N_loadTable_24 rfl rfl ?_
      refine gz_getR (pc := 25) cx qf_N_30 qd_N_loadTable_25 (gm_N (by assumption)) rfl rfl (hst _ _ _ rfl) ?_
      refine gz_iload_n (pc := 28) cx qd_N_loadTable_28 rfl rfl ?_
      refine gz_aaload (pc := 29) cx qd_N_loadTable_29 (by first | exact gm_tb (by assumption) | exact gm_ns | exact gm_cf | exact gm_w (by assumption) | exact gm_nw (by assumption) | exact gm_rs (by assumption) | exact gm_M (by assumption) | exact gm_R (by assumption) (by assumption) | exact gm_za (by decide) (by decide)) rfl ⟨by decide, by decide, rfl⟩ (hst _ _ _ rfl) rfl (by assumption) (by omega) ?_
      refine gz_callV (pc := 30) cx qv_N_114 qd_N_loadTable_30 (gc_M_carry (c := (mTab S i k).length) ha hi hk hst hcc (by omega)) (by decide) rfl (gm_M (by assumption)) rfl rfl rfl rfl (Nat.le_of_ble_eq_true rfl) ⟨Nat.zero_le _, Nat.zero_le _⟩ ?_
      rintro _ _ ⟨rfl, rfl⟩
      refine gz_iinc (pc := 33) cx qd_N_loadTable_33 rfl (g_inc k) ?_
      refine gz_goto (tgt := 2) (pc := 36) cx qd_N_loadTable_36 (by decide) ?_
      refine g_swap ?_ ih
      rw [hso] at h19
      rw [mTab_s, if_neg h19, sLoad_app, Nat.zero_add]
      rfl
end
section
theorem g_nm1 {b : Nat} (h : b < 2 ^ 31) : ¬ nI b = -1 := fun q => absurd (nI_pos h) (by rw [q]; decide)
theorem qm_q {a i : Nat} {l : List Nat} {S : gS} : qm (sQ a i l 0 S) i l = qm S i l := by
  funext m
  unfold qm
  by_cases h : m ∈ l
  · rw [if_pos h, if_pos h]
  · rw [if_neg h, if_neg h]
    exact sQ_off (by simp) (fun q => by cases q) (fun _ => Or.inr (Or.inr h))
theorem qm_s {i b : Nat} {l : List Nat} {S : gS} : (fun m => if m = b then 0 else qm S i l m) = qm S i (l ++ [b]) := by
  funext m
  unfold qm
  by_cases h : m = b
  · simp [h]
  · by_cases h2 : m ∈ l <;> simp [h, h2]
theorem gc_N_loadQueued {G : gG} {la : Launch} {S : gS} {i a : Nat} (hi : i < G.1) (ha : a < 121) (hK : cK G S) (hc : S.1 (5, a, 0) 6 = 0) : gM G la qy_N_loadQueued qw_N_loadQueued 1 0 0 (gTt G) (gTt G) [.inr (some (7, i, 0)), .inr (some (5, a, 0))] S (fun v S' => v = none ∧ S' = sQ a i (mPick G.1 3 (qm S i [])) 0 S) := by
  refine gM_of (cc := qc_N_loadQueued) (maxL := 5) (by decide) rfl (Nat.le_of_ble_eq_true rfl) ?_
  intro E cx hr hnm hcz hsz hEl
  subst hEl
  have h8 := hK.2.1
  suffices h : ∀ rem r, r + rem = 3 → ∀ (l : List Nat) (mk : Int32), l.length = r → (∀ m ∈ l, m < G.1) → isMk mk l → mPick G.1 3 (qm S i []) = l ++ mPick G.1 rem (qm S i l) → gZ G E 0 0 (gEnd G E 0 0 (gTt G) (fun v S' => v = none ∧ S' = sQ a i (mPick G.1 3 (qm S i [])) 0 S)) (gTt G) 4 [some (.inr (some (7, i, 0))), some (.inr (some (5, a, 0))), some (.inl mk), some (.inl (nI r)), none] [] (sQ a i l 0 S) by
    refine gz_iconst (v := 0) (pc := 0) cx qd_N_loadQueued_0 (by decide) ?_
    refine gz_istore_n (pc := 1) cx qd_N_loadQueued_1 rfl (Nat.le_of_ble_eq_true rfl) ?_
    refine gz_iconst (v := 0) (pc := 2) cx qd_N_loadQueued_2 (by decide) ?_
    refine gz_istore_n (pc := 3) cx qd_N_loadQueued_3 rfl (Nat.le_of_ble_eq_true rfl) ?_
    exact h 3 0 rfl [] 0 rfl (by simp) isMk_0 rfl
  intro rem
  induction rem with
  | zero =>
    intro r hr3 l mk hl hlt hmk he
    obtain rfl : r = 3 := by omega
    refine gz_iload_n (pc := 4) cx qd_N_loadQueued_4 rfl rfl ?_
    refine gz_iconst (v := 3) (pc := 5) cx qd_N_loadQueued_5 (by decide) ?_
    refine gz_icmp_ge (tgt := 65) (pc := 6) cx qd_N_loadQueued_6 (by decide) (fun _ => ?_) (fun h6 => absurd (Int32.le_refl _ : (3 : Int32) ≤ nI 3) h6)
    refine gz_return (pc := 65) cx hr qd_N_loadQueued_65 ?_
    refine ⟨rfl, ?_⟩
    rw [he, mPick, List.append_nil]
  | succ rem ih =>
    intro r hr3 l mk hl hlt hmk he
    have hKr : cK G (sQ a i l 0 S) := hK.q
    have hst := hKr.1
    have hcc : (sQ a i l 0 S).1 (5, a, 0) 6 = nI (0 + l.length) := sQ_c (c := 0) hc
    refine gz_iload_n (pc := 4) cx qd_N_loadQueued_4 rfl rfl ?_
    refine gz_iconst (v := 3) (pc := 5) cx qd_N_loadQueued_5 (by decide) ?_
    refine gz_icmp_ge (tgt := 65) (pc := 6) cx qd_N_loadQueued_6 (by decide) (fun h6 => absurd h6 (nI_ge (b := 3) (by omega) (by decide))) (fun _ => ?_)
    refine gz_aload_n (pc := 9) cx qd_N_loadQueued_9 rfl rfl ?_
    refine gz_iload_n (pc := 10) cx qd_N_loadQueued_10 rfl rfl ?_
    refine gz_callV (pc := 11) cx qv_N_118 qd_N_loadQueued_11 (gc_N_mostToSend hi hKr hmk) (by decide) rfl (gm_N (by assumption)) rfl rfl rfl rfl (Nat.le_of_ble_eq_true rfl) ⟨Nat.zero_le _, Nat.zero_le _⟩ ?_
    rintro _ _ ⟨rfl, rfl⟩
    rw [qm_q]
    cases hb : mBest (qm S i l) G.1 with
    | none =>
      refine gz_istore (pc := 14) cx qd_N_loadQueued_14 (Nat.le_of_ble_eq_true rfl) ?_
      refine gz_iload (pc := 16) cx qd_N_loadQueued_16 rfl ?_
      refine gz_iconst (v := -1) (pc := 18) cx qd_N_loadQueued_18 (by decide) ?_
      refine gz_icmp_ne (tgt := 23) (pc := 19) cx qd_N_loadQueued_19 (by decide) (fun h19 => absurd rfl h19) (fun _ => ?_)
      refine gz_return (pc := 22) cx hr qd_N_loadQueued_22 ?_
      refine ⟨rfl, ?_⟩
      rw [he, mPick, hb, List.append_nil]
    | some b =>
      have hbn := (mBest_lt hb).1
      refine gz_istore (pc := 14) cx qd_N_loadQueued_14 (Nat.le_of_ble_eq_true rfl) ?_
      refine gz_iload (pc := 16) cx qd_N_loadQueued_16 rfl ?_
      refine gz_iconst (v := -1) (pc := 18) cx qd_N_loadQueued_18 (by decide) ?_
      refine gz_icmp_ne (tgt := 23) (pc := 19) cx qd_N_loadQueued_19 (by decide) (fun _ => ?_) (fun h19 => absurd h19 (g_nm1 (by omega)))
      refine gz_aload_n (pc := 23) cx qd_N_loadQueued_23 rfl rfl ?_
      refine gz_iload (pc := 24) cx qd_N_loadQueued_24 rfl ?_
      refine gz_aload_n (pc := 26) cx qd_N_loadQueued_26 rfl rfl ?_
      refine gz_getR (pc := 27) cx qf_N_30 qd_N_loadQueued_27 (gm_N (by assumption)) rfl rfl (hst _ _ _ rfl) ?_
      refine gz_iload (pc := 30) cx qd_N_loadQueued_30 rfl ?_
      refine gz_aaload (pc := 32) cx qd_N_loadQueued_32 (by first | exact gm_tb (by assumption) | exact gm_ns | exact gm_cf | exact gm_w (by assumption) | exact gm_nw (by assumption) | exact gm_rs (by assumption) | exact gm_M (by assumption) | exact gm_R (by assumption) (by assumption) | exact gm_za (by decide) (by decide)) rfl ⟨by decide, by decide, rfl⟩ (hst _ _ _ rfl) (rfl : _ = nI b) (by assumption) (by omega) ?_
      refine gz_callV (pc := 33) cx qv_N_114 qd_N_loadQueued_33 (gc_M_carry (c := 0 + l.length) ha hi hbn hst hcc (by omega)) (by decide) rfl (gm_M (by assumption)) rfl rfl rfl rfl (Nat.le_of_ble_eq_true rfl) ⟨Nat.zero_le _, Nat.zero_le _⟩ ?_
      rintro _ _ ⟨rfl, rfl⟩
      refine gz_aload_n (pc := 36) cx qd_N_loadQueued_36 rfl rfl ?_
      refine gz_getR (pc := 37) cx qf_N_30 qd_N_loadQueued_37 (gm_N (by assumption)) rfl rfl (hst _ _ _ rfl) ?_
      refine gz_iload (pc := 40) cx qd_N_loadQueued_40 rfl ?_
      refine gz_aaload (pc := 42) cx qd_N_loadQueued_42 (by first | exact gm_tb (by assumption) | exact gm_ns | exact gm_cf | exact gm_w (by assumption) | exact gm_nw (by assumption) | exact gm_rs (by assumption) | exact gm_M (by assumption) | exact gm_R (by assumption) (by assumption) | exact gm_za (by decide) (by decide)) rfl ⟨by decide, by decide, rfl⟩ (hst _ _ _ rfl) (rfl : _ = nI b) (by assumption) (by omega) ?_
      refine gz_dup (pc := 43) cx qd_N_loadQueued_43 ?_
      refine gz_getI (pc := 44) cx qf_N_122 qd_N_loadQueued_44 (gm_E (by assumption) (by assumption)) rfl rfl ?_
      refine gz_iconst (v := 1) (pc := 47) cx qd_N_loadQueued_47 (by decide) ?_
      refine gz_isub (pc := 48) cx qd_N_loadQueued_48 ?_
      refine gz_putI (pc := 49) cx qp_N_122 qd_N_loadQueued_49 (gm_E (by assumption) (by assumption)) rfl rfl ⟨rfl, rfl⟩ (fun h => nomatch h) ?_
      refine gz_iload_n (pc := 52) cx qd_N_loadQueued_52 rfl rfl ?_
      refine gz_iconst (v := 1) (pc := 53) cx qd_N_loadQueued_53 (by decide) ?_
      refine gz_iload (pc := 54) cx qd_N_loadQueued_54 rfl ?_
      refine gz_ishl (pc := 56) cx qd_N_loadQueued_56 ?_
      refine gz_ior (pc := 57) cx qd_N_loadQueued_57 ?_
      refine gz_istore_n (pc := 58) cx qd_N_loadQueued_58 rfl (Nat.le_of_ble_eq_true rfl) ?_
      refine gz_iinc (pc := 59) cx qd_N_loadQueued_59 rfl (g_inc r) ?_
      refine gz_goto (tgt := 4) (pc := 62) cx qd_N_loadQueued_62 (by decide) ?_
      have e2 : (sCarry (sQ a i l 0 S) a (0 + l.length) i b).1 (9, i, b) 4 = (sQ a i l 0 S).1 (9, i, b) 4 := sCarry_off (by simp) (fun q => by cases q)
      rw [e2, ← sQ_app]
      refine gz_weak (lv' := [some (.inr (some (7, i, 0))), some (.inr (some (5, a, 0))), some (.inl (mk ||| (1 <<< (nI b &&& 31)))), some (.inl (nI (r + 1))), none]) ⟨rfl, rfl, rfl, rfl, trivial⟩ ?_
      refine ih (r + 1) (by omega) (l ++ [b]) _ (by simp [hl]) (fun m hm => ?_) (isMk_add hmk (by omega)) ?_
      · rcases List.mem_append.mp hm with h | h
        · exact hlt m h
        · rw [List.mem_singleton.mp h]; exact hbn
      · rw [he, mPick, hb]
        simp only [qm_s, List.append_assoc, List.singleton_append]
def sHdr (S : gS) (a : Nat) (kind s r no o g : Int32) : gS := gI (gI (gI (gI (gI (gI (gI S (5, a, 0) 0 kind) (5, a, 0) 1 s) (5, a, 0) 2 r) (5, a, 0) 6 0) (5, a, 0) 3 no) (5, a, 0) 4 o) (5, a, 0) 5 g
theorem cK.hdr {G : gG} {S : gS} {a : Nat} {kind s r no o g : Int32} (h : cK G S) : cK G (sHdr S a kind s r no o g) := ((((((h.I (by simp)).I (by simp)).I (by simp)).I (by simp)).I (by simp)).I (by simp)).I (by simp)
theorem sHdr_6 {S : gS} {a : Nat} {kind s r no o g : Int32} : (sHdr S a kind s r no o g).1 (5, a, 0) 6 = 0 := by simp [sHdr, gI1]
theorem gc_N_sendT {G : gG} {la : Launch} {S S1 : gS} {i a : Nat} {kind to no o g : Int32} (hi : i < G.1) (ha : a < 121) (hK : cK G S) (hK1 : cK G S1) (hN : gM G la qy_F_next qw_F_next 0 0 0 (gTt G) (gTt G) [.inr (some (3, 0, 0))] S (fun v S' => v = some (.inr (some (5, a, 0))) ∧ S' = S1)) (hk : kind = 6 ∨ kind = 7) : gM G la qy_N_send qw_N_send 2 0 0 (gTt G) (gTt G) [.inr (some (7, i, 0)), .inl kind, .inl to, .inl no, .inl o, .inl g] S (fun v S' => v = none ∧ S' = sLoad a i (mTab S1 i G.1) 0 (sHdr S1 a kind (nI i) to no o g)) := by
  refine gM_of (cc := qc_N_send) (maxL := 7) (by decide) rfl (Nat.le_of_ble_eq_true rfl) ?_
  intro E cx hr hnm hcz hsz hEl
  subst hEl
  have hst := hK.1
  have hid := (hK1.2.2.2.1 i hi).1
  refine gz_aload_n (pc := 0) cx qd_N_send_0 rfl rfl ?_
  refine gz_getR (pc := 1) cx qf_N_24 qd_N_send_1 (gm_N (by assumption)) rfl rfl (hst _ _ _ rfl) ?_
  refine gz_callV (pc := 4) cx qv_N_93 qd_N_send_4 (hN) (by decide) rfl gm_F rfl rfl rfl rfl (Nat.le_of_ble_eq_true rfl) ⟨Nat.zero_le _, Nat.zero_le _⟩ ?_
  rintro _ _ ⟨rfl, rfl⟩
  refine gz_astore (pc := 7) cx qd_N_send_7 (Nat.le_of_ble_eq_true rfl) ?_
  refine gz_aload (pc := 9) cx qd_N_send_9 rfl ?_
  refine gz_iload_n (pc := 11) cx qd_N_send_11 rfl rfl ?_
  refine gz_aload_n (pc := 12) cx qd_N_send_12 rfl rfl ?_
  refine gz_getI (pc := 13) cx qf_N_17 qd_N_send_13 (gm_N (by assumption)) rfl rfl ?_
  refine gz_iload_n (pc := 16) cx qd_N_send_16 rfl rfl ?_
  rw [hid]
  refine gz_callV (pc := 17) cx qv_N_99 qd_N_send_17 (gc_M_address ha) (by decide) rfl (gm_M (by assumption)) rfl rfl rfl rfl (Nat.le_of_ble_eq_true rfl) ⟨Nat.zero_le _, Nat.zero_le _⟩ ?_
  rintro _ _ ⟨rfl, rfl⟩
  refine gz_aload (pc := 20) cx qd_N_send_20 rfl ?_
  refine gz_iload_n (pc := 22) cx qd_N_send_22 rfl rfl ?_
  refine gz_iload (pc := 23) cx qd_N_send_23 rfl ?_
  refine gz_iload (pc := 25) cx qd_N_send_25 rfl ?_
  refine gz_callV (pc := 27) cx qv_N_104 qd_N_send_27 (gc_M_concern ha) (by decide) rfl (gm_M (by assumption)) rfl rfl rfl rfl (Nat.le_of_ble_eq_true rfl) ⟨Nat.zero_le _, Nat.zero_le _⟩ ?_
  rintro _ _ ⟨rfl, rfl⟩
  refine gz_iload_n (pc := 30) cx qd_N_send_30 rfl rfl ?_
  refine gz_bipush (v := 6) (pc := 31) cx qd_N_send_31 (by decide) ?_
  refine gz_icmp_eq (tgt := 42) (pc := 33) cx qd_N_send_33 (by decide) (fun h33 => ?_) (fun h33 => ?_)
  · refine gz_aload_n (pc := 42) cx qd_N_send_42 rfl rfl ?_
    refine gz_aload (pc := 43) cx qd_N_send_43 rfl ?_
    refine gz_callV (pc := 45) cx qv_N_107 qd_N_send_45 (gc_N_loadTable hi ha (S := sHdr _ a kind (nI i) to no o g) hK1.hdr sHdr_6) (by decide) rfl (gm_N (by assumption)) rfl rfl rfl rfl (Nat.le_of_ble_eq_true rfl) ⟨Nat.zero_le _, Nat.zero_le _⟩ ?_
    rintro _ _ ⟨rfl, rfl⟩
    refine gz_goto (tgt := 57) (pc := 48) cx qd_N_send_48 (by decide) ?_
    refine gz_return (pc := 57) cx hr qd_N_send_57 ?_
    exact ⟨rfl, rfl⟩
  · refine gz_iload_n (pc := 36) cx qd_N_send_36 rfl rfl ?_
    refine gz_bipush (v := 7) (pc := 37) cx qd_N_send_37 (by decide) ?_
    refine gz_icmp_ne (tgt := 51) (pc := 39) cx qd_N_send_39 (by decide) (fun h39 => absurd (hk.resolve_left h33) h39) (fun _ => ?_)
    refine gz_aload_n (pc := 42) cx qd_N_send_42 rfl rfl ?_
    refine gz_aload (pc := 43) cx qd_N_send_43 rfl ?_
    refine gz_callV (pc := 45) cx qv_N_107 qd_N_send_45 (gc_N_loadTable hi ha (S := sHdr _ a kind (nI i) to no o g) hK1.hdr sHdr_6) (by decide) rfl (gm_N (by assumption)) rfl rfl rfl rfl (Nat.le_of_ble_eq_true rfl) ⟨Nat.zero_le _, Nat.zero_le _⟩ ?_
    rintro _ _ ⟨rfl, rfl⟩
    refine gz_goto (tgt := 57) (pc := 48) cx qd_N_send_48 (by decide) ?_
    refine gz_return (pc := 57) cx hr qd_N_send_57 ?_
    exact ⟨rfl, rfl⟩
theorem gc_N_sendQ {G : gG} {la : Launch} {S S1 : gS} {i a : Nat} {kind to no o g : Int32} (hi : i < G.1) (ha : a < 121) (hK : cK G S) (hK1 : cK G S1) (hN : gM G la qy_F_next qw_F_next 0 0 0 (gTt G) (gTt G) [.inr (some (3, 0, 0))] S (fun v S' => v = some (.inr (some (5, a, 0))) ∧ S' = S1)) (hk : ¬ kind = 6 ∧ ¬ kind = 7) : gM G la qy_N_send qw_N_send 2 0 0 (gTt G) (gTt G) [.inr (some (7, i, 0)), .inl kind, .inl to, .inl no, .inl o, .inl g] S (fun v S' => v = none ∧ S' = sQ a i (mPick G.1 3 (qm S1 i [])) 0 (sHdr S1 a kind (nI i) to no o g)) := by
  refine gM_of (cc := qc_N_send) (maxL := 7) (by decide) rfl (Nat.le_of_ble_eq_true rfl) ?_
  intro E cx hr hnm hcz hsz hEl
  subst hEl
  have hst := hK.1
  have hid := (hK1.2.2.2.1 i hi).1
  refine gz_aload_n (pc := 0) cx qd_N_send_0 rfl rfl ?_
  refine gz_getR (pc := 1) cx qf_N_24 qd_N_send_1 (gm_N (by assumption)) rfl rfl (hst _ _ _ rfl) ?_
  refine gz_callV (pc := 4) cx qv_N_93 qd_N_send_4 (hN) (by decide) rfl gm_F rfl rfl rfl rfl (Nat.le_of_ble_eq_true rfl) ⟨Nat.zero_le _, Nat.zero_le _⟩ ?_
  rintro _ _ ⟨rfl, rfl⟩
  refine gz_astore (pc := 7) cx qd_N_send_7 (Nat.le_of_ble_eq_true rfl) ?_
  refine gz_aload (pc := 9) cx qd_N_send_9 rfl ?_
  refine gz_iload_n (pc := 11) cx qd_N_send_11 rfl rfl ?_
  refine gz_aload_n (pc := 12) cx qd_N_send_12 rfl rfl ?_
  refine gz_getI (pc := 13) cx qf_N_17 qd_N_send_13 (gm_N (by assumption)) rfl rfl ?_
  refine gz_iload_n (pc := 16) cx qd_N_send_16 rfl rfl ?_
  rw [hid]
  refine gz_callV (pc := 17) cx qv_N_99 qd_N_send_17 (gc_M_address ha) (by decide) rfl (gm_M (by assumption)) rfl rfl rfl rfl (Nat.le_of_ble_eq_true rfl) ⟨Nat.zero_le _, Nat.zero_le _⟩ ?_
  rintro _ _ ⟨rfl, rfl⟩
  refine gz_aload (pc := 20) cx qd_N_send_20 rfl ?_
  refine gz_iload_n (pc := 22) cx qd_N_send_22 rfl rfl ?_
  refine gz_iload (pc := 23) cx qd_N_send_23 rfl ?_
  refine gz_iload (pc := 25) cx qd_N_send_25 rfl ?_
  refine gz_callV (pc := 27) cx qv_N_104 qd_N_send_27 (gc_M_concern ha) (by decide) rfl (gm_M (by assumption)) rfl rfl rfl rfl (Nat.le_of_ble_eq_true rfl) ⟨Nat.zero_le _, Nat.zero_le _⟩ ?_
  rintro _ _ ⟨rfl, rfl⟩
  refine gz_iload_n (pc := 30) cx qd_N_send_30 rfl rfl ?_
  refine gz_bipush (v := 6) (pc := 31) cx qd_N_send_31 (by decide) ?_
  refine gz_icmp_eq (tgt := 42) (pc := 33) cx qd_N_send_33 (by decide) (fun h33 => absurd h33 hk.1) (fun _ => ?_)
  refine gz_iload_n (pc := 36) cx qd_N_send_36 rfl rfl ?_
  refine gz_bipush (v := 7) (pc := 37) cx qd_N_send_37 (by decide) ?_
  refine gz_icmp_ne (tgt := 51) (pc := 39) cx qd_N_send_39 (by decide) (fun _ => ?_) (fun h39 => absurd h39 hk.2)
  refine gz_aload_n (pc := 51) cx qd_N_send_51 rfl rfl ?_
  refine gz_aload (pc := 52) cx qd_N_send_52 rfl ?_
  refine gz_callV (pc := 54) cx qv_N_111 qd_N_send_54 (gc_N_loadQueued hi ha (S := sHdr _ a kind (nI i) to no o g) hK1.hdr sHdr_6) (by decide) rfl (gm_N (by assumption)) rfl rfl rfl rfl (Nat.le_of_ble_eq_true rfl) ⟨Nat.zero_le _, Nat.zero_le _⟩ ?_
  rintro _ _ ⟨rfl, rfl⟩
  refine gz_return (pc := 57) cx hr qd_N_send_57 ?_
  exact ⟨rfl, rfl⟩
end
section
/-! the pure picture: numbers M.1 f i j (f: 0..4 an entry's, 10 + slot a node's, 30 cut, 31 now), relays of a node, messages on their way -/
abbrev mA : Type := Nat → Nat → Nat → Int32
abbrev mM : Type := mA × (Nat → List (List Int32)) × List (List Int32)
def mSet (M : mM) (f i j : Nat) (v : Int32) : mM := (fun f' i' j' => if f' = f ∧ i' = i ∧ j' = j then v else M.1 f' i' j', M.2)
def mRl (M : mM) (i : Nat) (r : List (List Int32)) : mM := (M.1, fun i' => if i' = i then r else M.2.1 i', M.2.2)
def mFl (M : mM) (l : List (List Int32)) : mM := (M.1, M.2.1, l)
def mNews (M : mM) (i : Nat) (l : List Nat) : List Int32 := l.flatMap (fun m => [nI m, M.1 0 i m, M.1 1 i m])
def mTable (n : Nat) (M : mM) (i : Nat) : List Nat := (List.range n).filter (fun m => !decide (M.1 0 i m = 0))
def mSpend (M : mM) (i : Nat) (l : List Nat) : mM := (fun f' i' j' => if f' = 4 ∧ i' = i ∧ j' ∈ l then M.1 4 i j' - 1 else M.1 f' i' j', M.2)
def mMsg (kind : Int32) (i to : Int32) (no orig goal : Int32) (c : Nat) (news : List Int32) : List Int32 := [kind, i, to, no, orig, goal, nI c] ++ news
def mPush (M : mM) (m : List Int32) : mM := if M.2.2.length = 60 then M else mFl M (M.2.2 ++ [m])
def mPk (n : Nat) (M : mM) (i : Nat) : List Nat := mPick n 3 (M.1 4 i)
def mSend (n : Nat) (M : mM) (kind : Int32) (i : Nat) (to no orig goal : Int32) : mM :=
  if kind = 6 ∨ kind = 7 then mPush M (mMsg kind (nI i) to no orig goal (mTable n M i).length (mNews M i (mTable n M i)))
  else mPush (mSpend M i (mPk n M i)) (mMsg kind (nI i) to no orig goal (mPk n M i).length (mNews M i (mPk n M i)))
theorem mPick_in {n : Nat} : ∀ {k : Nat} {q : Nat → Int32} {m : Nat}, m ∈ mPick n k q → m < n ∧ 0 < q m
  | 0, q, m, h => by cases h
  | k + 1, q, m, h => by
    rw [mPick] at h
    cases hb : mBest q n with
    | none => rw [hb] at h; cases h
    | some b =>
      rw [hb] at h
      rcases List.mem_cons.mp h with rfl | h
      · exact mBest_lt hb
      · have ih := mPick_in h
        by_cases e : m = b
        · rw [if_pos e] at ih; exact absurd ih.2 Int32.lt_irrefl
        · rw [if_neg e] at ih; exact ih
theorem mPick_nd {n : Nat} : ∀ {k : Nat} {q : Nat → Int32}, (mPick n k q).Nodup
  | 0, q => List.nodup_nil
  | k + 1, q => by
    rw [mPick]
    cases hb : mBest q n with
    | none => exact List.nodup_nil
    | some b =>
      refine List.nodup_cons.mpr ⟨fun h => ?_, mPick_nd⟩
      have := (mPick_in h).2
      rw [if_pos rfl] at this
      exact absurd this Int32.lt_irrefl
theorem mPick_len {n : Nat} : ∀ {k : Nat} {q : Nat → Int32}, (mPick n k q).length ≤ k
  | 0, q => Nat.le_refl _
  | k + 1, q => by
    rw [mPick]
    cases hb : mBest q n with
    | none => exact Nat.zero_le _
    | some b => exact Nat.succ_le_succ mPick_len
theorem mPick_congr {n : Nat} : ∀ {k : Nat} {q q' : Nat → Int32}, (∀ m, m < n → q m = q' m) → mPick n k q = mPick n k q'
  | 0, q, q', h => rfl
  | k + 1, q, q', h => by
    rw [mPick, mPick, mBest_congr h]
    cases hb : mBest q' n with
    | none => rfl
    | some b =>
      show b :: _ = b :: _
      rw [mPick_congr (k := k) (fun m hm => by rw [h m hm])]
theorem mTable_len {n : Nat} {M : mM} {i : Nat} : (mTable n M i).length ≤ n := by
  unfold mTable
  exact Nat.le_trans (List.length_filter_le _ _) (by simp)
theorem mTable_in {n : Nat} {M : mM} {i m : Nat} (h : m ∈ mTable n M i) : m < n := List.mem_range.mp (List.mem_filter.mp h).1
theorem mNews_at {M : mM} {i : Nat} : ∀ {l : List Nat} {t : Nat}, t < l.length → (mNews M i l).getD (3 * t) 0 = nI (l.getD t 0) ∧ (mNews M i l).getD (3 * t + 1) 0 = M.1 0 i (l.getD t 0) ∧ (mNews M i l).getD (3 * t + 2) 0 = M.1 1 i (l.getD t 0)
  | [], t, h => by cases h
  | m :: l, 0, h => ⟨rfl, rfl, rfl⟩
  | m :: l, t + 1, h => by
    have ih := mNews_at (M := M) (i := i) (l := l) (t := t) (by simpa using h)
    have e : ∀ x, (mNews M i (m :: l)).getD (3 * (t + 1) + x) 0 = (mNews M i l).getD (3 * t + x) 0 := by
      intro x
      show ([nI m, M.1 0 i m, M.1 1 i m] ++ mNews M i l).getD _ 0 = _
      have : 3 * (t + 1) + x = 3 * t + x + 3 := by omega
      rw [this]
      rfl
    refine ⟨?_, ?_, ?_⟩
    · exact (e 0).trans ih.1
    · exact (e 1).trans ih.2.1
    · exact (e 2).trans ih.2.2
theorem mNews_len {M : mM} {i : Nat} : ∀ {l : List Nat}, (mNews M i l).length = 3 * l.length
  | [] => rfl
  | m :: l => by
    show ([nI m, M.1 0 i m, M.1 1 i m] ++ mNews M i l).length = _
    rw [List.length_append, mNews_len]
    simp only [List.length_cons, List.length_nil]
    omega
/-! a message's cells -/
def isMsg (S : gS) (a : Nat) (m : List Int32) : Prop := ∃ c, c ≤ 8 ∧ m.length = 7 + 3 * c ∧ m.getD 6 0 = nI c ∧ (∀ f, f < 7 → S.1 (5, a, 0) f = m.getD f 0) ∧ ∀ j, j < 3 * c → S.1 (6, a, 0) j = m.getD (7 + j) 0
theorem isMsg.of {S S' : gS} {a : Nat} {m : List Int32} (h : isMsg S a m) (h5 : ∀ f, f < 7 → S'.1 (5, a, 0) f = S.1 (5, a, 0) f) (h6 : ∀ j, S'.1 (6, a, 0) j = S.1 (6, a, 0) j) : isMsg S' a m := by
  obtain ⟨c, h1, h2, h3, h4, h7⟩ := h
  exact ⟨c, h1, h2, h3, fun f hf => by rw [h5 f hf]; exact h4 f hf, fun j hj => by rw [h6 j]; exact h7 j hj⟩
theorem sCarry_n {S : gS} {a c i m : Nat} {j : Nat} : (sCarry S a c i m).1 (6, a, 0) j = if j = 3 * c + 2 then S.1 (9, i, m) 1 else if j = 3 * c + 1 then S.1 (9, i, m) 0 else if j = 3 * c then nI m else S.1 (6, a, 0) j := by
  unfold sCarry
  rw [gI1, if_neg (fun q => by simp at q), gI1, gI1, gI1]
  simp only [true_and]
theorem sCarry_o {S : gS} {a c i m a' : Nat} {j : Nat} (h : a' ≠ a) : (sCarry S a c i m).1 (6, a', 0) j = S.1 (6, a', 0) j := by
  unfold sCarry
  rw [gI1, if_neg (fun q => by simp at q), gI1, if_neg (fun q => h (by simpa using q.1)), gI1, if_neg (fun q => h (by simpa using q.1)), gI1, if_neg (fun q => h (by simpa using q.1))]
theorem sLoad_o {a i a' : Nat} (h : a' ≠ a) : ∀ {l : List Nat} {c : Nat} {S : gS} {j : Nat}, (sLoad a i l c S).1 (6, a', 0) j = S.1 (6, a', 0) j
  | [], _, _, _ => rfl
  | m :: l, c, S, j => by
    show (sLoad a i l (c + 1) _).1 _ j = _
    rw [sLoad_o h, sCarry_o h]
theorem sQ_o {a i a' : Nat} (h : a' ≠ a) : ∀ {l : List Nat} {c : Nat} {S : gS} {j : Nat}, (sQ a i l c S).1 (6, a', 0) j = S.1 (6, a', 0) j
  | [], _, _, _ => rfl
  | m :: l, c, S, j => by
    show (sQ a i l (c + 1) _).1 _ j = _
    rw [sQ_o h, gI1, if_neg (fun q => by simp at q), sCarry_o h]
theorem sLoad_n {a i : Nat} : ∀ {l : List Nat} {c : Nat} {S : gS}, (∀ j, j < 3 * c → (sLoad a i l c S).1 (6, a, 0) j = S.1 (6, a, 0) j) ∧ ∀ t, t < l.length → (sLoad a i l c S).1 (6, a, 0) (3 * (c + t)) = nI (l.getD t 0) ∧ (sLoad a i l c S).1 (6, a, 0) (3 * (c + t) + 1) = S.1 (9, i, l.getD t 0) 0 ∧ (sLoad a i l c S).1 (6, a, 0) (3 * (c + t) + 2) = S.1 (9, i, l.getD t 0) 1
  | [], c, S => ⟨fun _ _ => rfl, fun t h => by cases h⟩
  | m :: l, c, S => by
    obtain ⟨h1, h2⟩ := sLoad_n (a := a) (i := i) (l := l) (c := c + 1) (S := sCarry S a c i m)
    have e : sLoad a i (m :: l) c S = sLoad a i l (c + 1) (sCarry S a c i m) := rfl
    rw [e]
    refine ⟨fun j hj => ?_, fun t ht => ?_⟩
    · rw [h1 j (by omega), sCarry_n, if_neg (by omega), if_neg (by omega), if_neg (by omega)]
    · cases t with
      | zero =>
        refine ⟨?_, ?_, ?_⟩
        · rw [h1 _ (by omega), sCarry_n, if_neg (by omega), if_neg (by omega), if_pos (by omega)]; rfl
        · rw [h1 _ (by omega), sCarry_n, if_neg (by omega), if_pos (by omega)]; rfl
        · rw [h1 _ (by omega), sCarry_n, if_pos (by omega)]; rfl
      | succ t =>
        have := h2 t (by simpa using ht)
        have e2 : c + 1 + t = c + (t + 1) := by omega
        rw [e2, sCarry_off (by simp) (fun q => by cases q), sCarry_off (by simp) (fun q => by cases q)] at this
        exact this
theorem sQ_n {a i : Nat} : ∀ {l : List Nat} {c : Nat} {S : gS}, (∀ j, j < 3 * c → (sQ a i l c S).1 (6, a, 0) j = S.1 (6, a, 0) j) ∧ ∀ t, t < l.length → (sQ a i l c S).1 (6, a, 0) (3 * (c + t)) = nI (l.getD t 0) ∧ (sQ a i l c S).1 (6, a, 0) (3 * (c + t) + 1) = S.1 (9, i, l.getD t 0) 0 ∧ (sQ a i l c S).1 (6, a, 0) (3 * (c + t) + 2) = S.1 (9, i, l.getD t 0) 1
  | [], c, S => ⟨fun _ _ => rfl, fun t h => by cases h⟩
  | m :: l, c, S => by
    obtain ⟨h1, h2⟩ := sQ_n (a := a) (i := i) (l := l) (c := c + 1) (S := gI (sCarry S a c i m) (9, i, m) 4 (S.1 (9, i, m) 4 - 1))
    have e : sQ a i (m :: l) c S = sQ a i l (c + 1) (gI (sCarry S a c i m) (9, i, m) 4 (S.1 (9, i, m) 4 - 1)) := rfl
    have g6 : ∀ j, (gI (sCarry S a c i m) (9, i, m) 4 (S.1 (9, i, m) 4 - 1)).1 (6, a, 0) j = (sCarry S a c i m).1 (6, a, 0) j := fun j => by rw [gI1, if_neg (fun q => by simp at q)]
    rw [e]
    refine ⟨fun j hj => ?_, fun t ht => ?_⟩
    · rw [h1 j (by omega), g6, sCarry_n, if_neg (by omega), if_neg (by omega), if_neg (by omega)]
    · cases t with
      | zero =>
        refine ⟨?_, ?_, ?_⟩
        · rw [h1 _ (by omega), g6, sCarry_n, if_neg (by omega), if_neg (by omega), if_pos (by omega)]; rfl
        · rw [h1 _ (by omega), g6, sCarry_n, if_neg (by omega), if_pos (by omega)]; rfl
        · rw [h1 _ (by omega), g6, sCarry_n, if_pos (by omega)]; rfl
      | succ t =>
        have := h2 t (by simpa using ht)
        have e2 : c + 1 + t = c + (t + 1) := by omega
        rw [e2, gI1, if_neg (fun q => by simp at q), gI1, if_neg (fun q => by simp at q), sCarry_off (by simp) (fun q => by cases q), sCarry_off (by simp) (fun q => by cases q)] at this
        exact this
theorem sQ_s {a i : Nat} : ∀ {l : List Nat} {c : Nat} {S : gS} {m : Nat}, l.Nodup → (sQ a i l c S).1 (9, i, m) 4 = if m ∈ l then S.1 (9, i, m) 4 - 1 else S.1 (9, i, m) 4
  | [], _, _, _, _ => rfl
  | b :: l, c, S, m, h => by
    obtain ⟨hb, hl⟩ := List.nodup_cons.mp h
    show (sQ a i l (c + 1) _).1 _ 4 = _
    rw [sQ_s hl]
    have e1 : (gI (sCarry S a c i b) (9, i, b) 4 (S.1 (9, i, b) 4 - 1)).1 (9, i, m) 4 = if m = b then S.1 (9, i, b) 4 - 1 else S.1 (9, i, m) 4 := by
      rw [gI1]
      by_cases e : m = b
      · subst e; rw [if_pos ⟨rfl, rfl⟩, if_pos rfl]
      · rw [if_neg (fun q => e (by simpa using q)), if_neg e, sCarry_off (by simp) (fun q => by cases q)]
    rw [e1]
    by_cases e : m = b
    · subst e
      rw [if_neg hb, if_pos rfl, if_pos List.mem_cons_self]
    · by_cases e2 : m ∈ l
      · rw [if_pos e2, if_neg e, if_pos (List.mem_cons_of_mem _ e2)]
      · rw [if_neg e2, if_neg e, if_neg (fun q => by rcases List.mem_cons.mp q with q | q; exact e q; exact e2 q)]
/-! the class's cells hold M; p messages are landed and not yet taken, the first of them at place i0 -/
def CF (S : gS) (fl : List (List Int32)) (p i0 : Nat) (kc : Option (Nat × List Int32)) : Prop := ∃ (b : Nat) (σ : Nat → Nat → Nat), b < 2 ∧ S.2 (3, 0, 0) 0 = some (4, b, 0) ∧ S.2 (3, 0, 0) 1 = some (4, 1 - b, 0) ∧ (∀ c k, c < 2 → k < 60 → S.2 (4, c, 0) k = some (5, σ c k, 0) ∧ σ c k < 120) ∧
  (∀ c k c' k', c < 2 → k < 60 → c' < 2 → k' < 60 → σ c k = σ c' k' → c = c' ∧ k = k') ∧ p ≤ fl.length ∧ fl.length - p ≤ 60 ∧ S.1 (3, 0, 0) 3 = nI (fl.length - p) ∧ (∀ k, k < fl.length - p → isMsg S (σ b k) (fl.getD (p + k) [])) ∧ i0 + p ≤ 60 ∧ (∀ q, q < p → isMsg S (σ (1 - b) (i0 + q)) (fl.getD q [])) ∧ ∀ a msg, kc = some (a, msg) → 1 ≤ i0 ∧ σ (1 - b) (i0 - 1) = a ∧ isMsg S a msg
def CL (S : gS) (i : Nat) (r : List (List Int32)) : Prop := ∃ ρ : Nat → Nat, r.length ≤ 4 ∧ S.1 (7, i, 0) 8 = nI r.length ∧ (∀ k, k < 4 → S.2 (10, i, 0) k = some (11, i, ρ k) ∧ ρ k < 4) ∧ (∀ k k', k < 4 → k' < 4 → ρ k = ρ k' → k = k') ∧ ∀ k, k < r.length → ∀ f, f < 4 → S.1 (11, i, ρ k) f = (r.getD k []).getD f 0
def CC (G : gG) (M : mM) (S : gS) : Prop := (∀ i, i < G.1 → ∃ l, isMk (S.1 (2, 0, 0) i) l ∧ ∀ j, j < G.1 → (j ∈ l ↔ M.1 30 i j = 1)) ∧ S.1 (0, 0, 0) 4 = M.1 31 0 0
def CR (G : gG) (M : mM) (p i0 : Nat) (kc : Option (Nat × List Int32)) (S : gS) : Prop := cK G S ∧ (∀ i j f, i < G.1 → j < G.1 → f < 5 → S.1 (9, i, j) f = M.1 f i j) ∧ (∀ i f, i < G.1 → 5 ≤ f → f < 18 → f ≠ 8 → S.1 (7, i, 0) f = M.1 (10 + f) i 0) ∧ (∀ i, i < G.1 → CL S i (M.2.1 i)) ∧ CC G M S ∧ CF S M.2.2 p i0 kc
/-- the reference's cells are as they were -/
def gFr (S S' : gS) : Prop := ∀ k : gK, 20 ≤ k.1 → S'.1 k = S.1 k ∧ S'.2 k = S.2 k
theorem gFr.rf {S : gS} : gFr S S := fun _ _ => ⟨rfl, rfl⟩
theorem gFr.tr {S S' S'' : gS} (h : gFr S S') (h2 : gFr S' S'') : gFr S S'' := fun k hk => ⟨(h2 k hk).1.trans (h k hk).1, (h2 k hk).2.trans (h k hk).2⟩
theorem gFr.I {S : gS} {k : gK} {f : Nat} {v : Int32} (h : k.1 < 20) : gFr S (gI S k f v) := fun k' hk' => ⟨funext fun f' => by rw [gI1, if_neg (fun q => by rw [q.1] at hk'; omega)], rfl⟩
theorem gFr.X {S : gS} {k : gK} {f : Nat} {v : Option gK} (h : k.1 < 20) : gFr S (gX S k f v) := fun k' hk' => ⟨rfl, funext fun f' => by rw [gX2, if_neg (fun q => by rw [q.1] at hk'; omega)]⟩
end
section
/-! send, lifted -/
theorem sHdr_o {S : gS} {a : Nat} {kind s r no o g : Int32} {k : gK} {f : Nat} (h : k ≠ (5, a, 0)) : (sHdr S a kind s r no o g).1 k f = S.1 k f := by
  have h1 : ∀ x, ¬ (k = (5, a, 0) ∧ f = x) := fun x q => h q.1
  unfold sHdr
  rw [gI1, if_neg (h1 _), gI1, if_neg (h1 _), gI1, if_neg (h1 _), gI1, if_neg (h1 _), gI1, if_neg (h1 _), gI1, if_neg (h1 _), gI1, if_neg (h1 _)]
theorem sHdr_f {S : gS} {a : Nat} {kind s r no o g : Int32} : ∀ f, f < 6 → (sHdr S a kind s r no o g).1 (5, a, 0) f = [kind, s, r, no, o, g].getD f 0 := by
  intro f hf
  match f, hf with
  | 0, _ => simp [sHdr, gI1]
  | 1, _ => simp [sHdr, gI1]
  | 2, _ => simp [sHdr, gI1]
  | 3, _ => simp [sHdr, gI1]
  | 4, _ => simp [sHdr, gI1]
  | 5, _ => simp [sHdr, gI1]
  | f + 6, h => exact absurd h (by omega)
/-- the cells of a state that has loaded a message at a, off that message -/
def offMsg (S S' : gS) (a : Nat) : Prop := S'.2 = S.2 ∧ (∀ k f, k.1 ≠ 6 → k ≠ (5, a, 0) → k.1 ≠ 9 → k ≠ (3, 0, 0) → S'.1 k f = S.1 k f) ∧ ∀ a' j, a' ≠ a → S'.1 (6, a', 0) j = S.1 (6, a', 0) j
theorem CF.push {S S' : gS} {fl : List (List Int32)} {p i0 : Nat} {kc : Option (Nat × List Int32)} {m : List Int32} (h : CF S fl p i0 kc) (hl : fl.length - p < 60) {a : Nat} (ha : ∀ b σ, b < 2 → S.2 (3, 0, 0) 0 = some (4, b, 0) → S.2 (4, b, 0) (fl.length - p) = some (5, σ, 0) → σ = a) (ho : offMsg S S' a) (hz : S'.1 (3, 0, 0) 3 = nI (fl.length - p + 1)) (hm : isMsg S' a m) : CF S' (fl ++ [m]) p i0 kc := by
  obtain ⟨b, σ, hb, h1, h2, h3, h4, h5, h6, h7, h8, h9, h10, h11⟩ := h
  have ea : σ b (fl.length - p) = a := ha b _ hb h1 (h3 b _ hb hl).1
  obtain ⟨o2, o1, o6⟩ := ho
  have hother : ∀ c k, c < 2 → k < 60 → ¬ (c = b ∧ k = fl.length - p) → ∀ m', isMsg S (σ c k) m' → isMsg S' (σ c k) m' := by
    intro c k hc hk hne m' hm'
    have hd : σ c k ≠ a := fun q => hne (h4 c k b _ hc hk hb hl (by rw [ea]; exact q))
    exact hm'.of (fun f _ => o1 _ f (by simp) (fun q => hd (by simpa using q)) (by simp) (by simp)) (fun j => o6 _ j hd)
  have elen : (fl ++ [m]).length - p = fl.length - p + 1 := by rw [List.length_append]; simp only [List.length_cons, List.length_nil]; omega
  refine ⟨b, σ, hb, by rw [o2]; exact h1, by rw [o2]; exact h2, fun c k hc hk => by rw [o2]; exact h3 c k hc hk, h4, by rw [List.length_append]; omega, by omega, by rw [elen]; exact hz, fun k hk => ?_, h9, fun q hq => ?_, fun a' msg q => ?_⟩
  · rw [elen] at hk
    by_cases e : k = fl.length - p
    · subst e
      rw [ea]
      have e2 : p + (fl.length - p) = fl.length := by omega
      rw [e2, List.getD_eq_getElem?_getD, List.getElem?_append_right (Nat.le_refl _)]
      simpa using hm
    · have e3 : (fl ++ [m]).getD (p + k) [] = fl.getD (p + k) [] := by
        rw [List.getD_eq_getElem?_getD, List.getD_eq_getElem?_getD, List.getElem?_append_left (by omega)]
      rw [e3]
      exact hother b k hb (by omega) (fun q => e q.2) _ (h8 k (by omega))
  · have e3 : (fl ++ [m]).getD q [] = fl.getD q [] := by
      rw [List.getD_eq_getElem?_getD, List.getD_eq_getElem?_getD, List.getElem?_append_left (by omega)]
    rw [e3]
    refine hother (1 - b) (i0 + q) (by omega) (by omega) (fun z => by omega) _ (h10 q hq)
  · obtain ⟨q1, q2, q3⟩ := h11 a' msg q
    refine ⟨q1, q2, ?_⟩
    rw [← q2] at q3 ⊢
    exact hother (1 - b) (i0 - 1) (by omega) (by omega) (fun z => by omega) _ q3
theorem CF.keep {S S' : gS} {fl : List (List Int32)} {p i0 : Nat} {kc : Option (Nat × List Int32)} (h : CF S fl p i0 kc) (ho : offMsg S S' 120) (hz : S'.1 (3, 0, 0) 3 = S.1 (3, 0, 0) 3) : CF S' fl p i0 kc := by
  obtain ⟨b, σ, hb, h1, h2, h3, h4, h5, h6, h7, h8, h9, h10, h11⟩ := h
  obtain ⟨o2, o1, o6⟩ := ho
  have hother : ∀ c k, c < 2 → k < 60 → ∀ m', isMsg S (σ c k) m' → isMsg S' (σ c k) m' := by
    intro c k hc hk m' hm'
    have hd : σ c k ≠ 120 := fun q => by have := (h3 c k hc hk).2; omega
    exact hm'.of (fun f _ => o1 _ f (by simp) (fun q => hd (by simpa using q)) (by simp) (by simp)) (fun j => o6 _ j hd)
  exact ⟨b, σ, hb, by rw [o2]; exact h1, by rw [o2]; exact h2, fun c k hc hk => by rw [o2]; exact h3 c k hc hk, h4, h5, h6, by rw [hz]; exact h7, fun k hk => hother b k hb (by omega) _ (h8 k hk), h9, fun q hq => hother (1 - b) (i0 + q) (by omega) (by omega) _ (h10 q hq), fun a' msg q => by
    obtain ⟨q1, q2, q3⟩ := h11 a' msg q
    refine ⟨q1, q2, ?_⟩
    rw [← q2] at q3 ⊢
    exact hother (1 - b) (i0 - 1) (by omega) (by omega) _ q3⟩
theorem CL.of {S S' : gS} {i : Nat} {r : List (List Int32)} (h : CL S i r) (h7 : S'.1 (7, i, 0) 8 = S.1 (7, i, 0) 8) (h2 : ∀ k, S'.2 (10, i, 0) k = S.2 (10, i, 0) k) (h11 : ∀ k f, S'.1 (11, i, k) f = S.1 (11, i, k) f) : CL S' i r := by
  obtain ⟨ρ, a1, a2, a3, a4, a5⟩ := h
  exact ⟨ρ, a1, by rw [h7]; exact a2, fun k hk => by rw [h2]; exact a3 k hk, a4, fun k hk f hf => by rw [h11]; exact a5 k hk f hf⟩
theorem mMsg_0 {kind i to no o g : Int32} {c : Nat} {news : List Int32} : ∀ f, f < 6 → (mMsg kind i to no o g c news).getD f 0 = [kind, i, to, no, o, g].getD f 0 := by
  intro f hf
  match f, hf with
  | 0, _ => rfl
  | 1, _ => rfl
  | 2, _ => rfl
  | 3, _ => rfl
  | 4, _ => rfl
  | 5, _ => rfl
  | f + 6, h => exact absurd h (by omega)
theorem isMsg_new {S : gS} {M : mM} {a i : Nat} {l : List Nat} {kind to no o g : Int32} (h8 : l.length ≤ 8) (hf : ∀ f, f < 6 → S.1 (5, a, 0) f = [kind, nI i, to, no, o, g].getD f 0) (hc : S.1 (5, a, 0) 6 = nI l.length) (hn : ∀ t, t < l.length → S.1 (6, a, 0) (3 * t) = nI (l.getD t 0) ∧ S.1 (6, a, 0) (3 * t + 1) = M.1 0 i (l.getD t 0) ∧ S.1 (6, a, 0) (3 * t + 2) = M.1 1 i (l.getD t 0)) : isMsg S a (mMsg kind (nI i) to no o g l.length (mNews M i l)) := by
  refine ⟨l.length, h8, ?_, rfl, fun f hf7 => ?_, fun j hj => ?_⟩
  · show ([_, _, _, _, _, _, _] ++ mNews M i l).length = _
    rw [List.length_append, mNews_len]; rfl
  · by_cases e : f = 6
    · subst e; exact hc
    · rw [hf f (by omega), mMsg_0 f (by omega)]
  · have e : (mMsg kind (nI i) to no o g l.length (mNews M i l)).getD (7 + j) 0 = (mNews M i l).getD j 0 := by
      rw [Nat.add_comm]; rfl
    rw [e]
    have ht : j / 3 < l.length := by omega
    obtain ⟨n1, n2, n3⟩ := mNews_at (M := M) (i := i) ht
    obtain ⟨s1, s2, s3⟩ := hn _ ht
    have : j = 3 * (j / 3) ∨ j = 3 * (j / 3) + 1 ∨ j = 3 * (j / 3) + 2 := by omega
    rcases this with q | q | q
    · rw [q, s1, n1]
    · rw [q, s2, n2]
    · rw [q, s3, n3]
/-- what a state is behind a send: M's numbers but for the sendings in l, the message at a -/
theorem CR.sent {G : gG} {M : mM} {p i0 : Nat} {kc : Option (Nat × List Int32)} {S S' : gS} {i a : Nat} {l : List Nat} {msg : List Int32} (h : CR G M p i0 kc S) (ho : offMsg S S' a) (hfr : ∀ k : gK, 20 ≤ k.1 → S'.1 k = S.1 k) (hi : i < G.1)
    (h9 : ∀ i' j f, i' < G.1 → j < G.1 → f < 5 → S'.1 (9, i', j) f = (mSpend M i l).1 f i' j) (hF : CF S' (if M.2.2.length = 60 then M.2.2 else M.2.2 ++ [msg]) p i0 kc) : CR G (mPush (mSpend M i l) msg) p i0 kc S' ∧ gFr S S' := by
  obtain ⟨hK, hE, hN, hL, hC, hF0⟩ := h
  obtain ⟨o2, o1, o6⟩ := ho
  have hm1 : ∀ f i j, f ≠ 4 → (mPush (mSpend M i l) msg).1 f i j = M.1 f i j := by
    intro f i j hf
    unfold mPush
    split <;> exact if_neg (fun q => hf q.1)
  have e1 : (mPush (mSpend M i l) msg).1 = (mSpend M i l).1 := by unfold mPush; split <;> rfl
  have e2 : (mPush (mSpend M i l) msg).2.1 = M.2.1 := by unfold mPush; split <;> rfl
  have e3 : (mPush (mSpend M i l) msg).2.2 = if M.2.2.length = 60 then M.2.2 else M.2.2 ++ [msg] := by
    unfold mPush
    by_cases q : M.2.2.length = 60
    · rw [if_pos q, if_pos (show (mSpend M i l).2.2.length = 60 from q)]; rfl
    · rw [if_neg q, if_neg (show ¬ (mSpend M i l).2.2.length = 60 from q)]; rfl
  have hm : ∀ f i' j, f ≠ 4 → (mPush (mSpend M i l) msg).1 f i' j = M.1 f i' j := by
    intro f i' j hf
    rw [e1]
    exact if_neg (fun q => hf q.1)
  refine ⟨⟨?_, ?_, ?_, ?_, ?_, ?_⟩, fun k hk => ⟨hfr k hk, by rw [o2]⟩⟩
  · exact hK.of (fun _ _ _ _ => by rw [o2]) (fun i => ⟨o1 _ _ (by simp) (by simp) (by simp) (by simp), o1 _ _ (by simp) (by simp) (by simp) (by simp)⟩) (o1 _ _ (by simp) (by simp) (by simp) (by simp))
  · intro i' j f hi' hj hf
    rw [h9 i' j f hi' hj hf, e1]
  · intro i' f hi' h5 h18 hf
    rw [o1 _ _ (by simp) (by simp) (by simp) (by simp), hN i' f hi' h5 h18 hf, hm _ _ _ (by omega)]
  · intro i' hi'
    rw [e2]
    exact (hL i' hi').of (o1 _ _ (by simp) (by simp) (by simp) (by simp)) (fun k => by rw [o2]) (fun k f => o1 _ _ (by simp) (by simp) (by simp) (by simp))
  · refine ⟨fun i' hi' => ?_, ?_⟩
    · obtain ⟨l', h1, h2⟩ := hC.1 i' hi'
      exact ⟨l', by rw [o1 _ _ (by simp) (by simp) (by simp) (by simp)]; exact h1, fun j hj => by rw [h2 j hj, hm _ _ _ (by omega)]⟩
    · rw [o1 _ _ (by simp) (by simp) (by simp) (by simp), hC.2, hm _ _ _ (by omega)]
  · rw [e3]; exact hF
end
section
theorem gM_mono {G : gG} {l : Launch} {y : MethodName} {ws : List Cond} {d mc ms t t' : Nat} {av : List gV} {S : gS} {Rt Rt' : Option gV → gS → Prop} (h : gM G l y ws d mc ms t t' av S Rt) (hm : ∀ v S', Rt v S' → Rt' v S') : gM G l y ws d mc ms t t' av S Rt' := by
  unfold gM Met at h ⊢
  refine MetFree.mono h (fun _ _ q => q) (fun _ _ _ _ _ q => q) (fun a s o u _ q => ?_)
  obtain ⟨⟨⟨v, S', h1, h2, h3⟩, h4⟩, h5⟩ := q
  exact ⟨⟨⟨v, S', h1, hm v S' h2, h3⟩, h4⟩, h5⟩
theorem mSpend_nil {M : mM} {i : Nat} : mSpend M i [] = M := by
  unfold mSpend
  have : (fun f' i' j' => if f' = 4 ∧ i' = i ∧ j' ∈ ([] : List Nat) then M.1 4 i j' - 1 else M.1 f' i' j') = M.1 := by
    funext f' i' j'
    rw [if_neg (fun q => by cases q.2.2)]
  rw [this]
theorem offMsg_q {S : gS} {a i : Nat} {l : List Nat} {v : Int32} {kind s r no o g : Int32} : offMsg S (sQ a i l 0 (sHdr (gI S (3, 0, 0) 3 v) a kind s r no o g)) a := by
  refine ⟨by rw [sQ_2]; rfl, fun k f h6 h5 h9 h3 => ?_, fun a' j ha => ?_⟩
  · rw [sQ_off h6 (fun q => absurd q h5) (fun q => absurd q h9), sHdr_o h5, gI1, if_neg (fun q => h3 q.1)]
  · rw [sQ_o ha, sHdr_o (by simp), gI1, if_neg (fun q => by simp at q)]
theorem offMsg_t {S : gS} {a i : Nat} {l : List Nat} {v : Int32} {kind s r no o g : Int32} : offMsg S (sLoad a i l 0 (sHdr (gI S (3, 0, 0) 3 v) a kind s r no o g)) a := by
  refine ⟨by rw [sLoad_2]; rfl, fun k f h6 h5 h9 h3 => ?_, fun a' j ha => ?_⟩
  · rw [sLoad_off h6 (fun q => absurd q h5), sHdr_o h5, gI1, if_neg (fun q => h3 q.1)]
  · rw [sLoad_o ha, sHdr_o (by simp), gI1, if_neg (fun q => by simp at q)]
theorem gI_id {S : gS} {k : gK} {f : Nat} : gI S k f (S.1 k f) = S := by
  have : (gI S k f (S.1 k f)).1 = S.1 := by
    funext k' f'
    rw [gI1]
    by_cases h : k' = k ∧ f' = f
    · rw [if_pos h, h.1, h.2]
    · rw [if_neg h]
  exact Prod.ext this rfl
/-- where the next message goes -/
theorem CF.next {G : gG} {la : Launch} {S : gS} {fl : List (List Int32)} {p i0 : Nat} {kc : Option (Nat × List Int32)} (h : CF S fl p i0 kc) (hst : gSt G S) (hp : p = 0 ∨ fl.length < 60) : ∃ (a : Nat) (v : Int32), a < 121 ∧
    gM G la qy_F_next qw_F_next 0 0 0 (gTt G) (gTt G) [.inr (some (3, 0, 0))] S (fun v' S' => v' = some (.inr (some (5, a, 0))) ∧ S' = gI S (3, 0, 0) 3 v) ∧
    ∀ (S' : gS) (m : List Int32), offMsg S S' a → S'.1 (3, 0, 0) 3 = v → isMsg S' a m → CF S' (if fl.length = 60 then fl else fl ++ [m]) p i0 kc := by
  have h0 := h
  obtain ⟨b, σ, hb, h1, h2, h3, h4, h5, h6, h7, h8, h9, h10, h11⟩ := h
  by_cases hz : fl.length - p < 60
  · have ha := (h3 b _ hb hz)
    refine ⟨σ b (fl.length - p), nI (fl.length - p + 1), by omega, gc_F_next hb h1 h7 hz hst ha.1, fun S' m ho hv hm => ?_⟩
    have e : ¬ fl.length = 60 := by rcases hp with rfl | hp <;> omega
    rw [if_neg e]
    refine h0.push hz (a := σ b (fl.length - p)) (fun b' σ' hb' q1 q2 => ?_) ho hv hm
    have eb : b' = b := by
      have := q1.symm.trans h1
      simpa using this
    subst eb
    have := q2.symm.trans ha.1
    simpa using this
  · have e60 : fl.length - p = 60 := by omega
    rw [e60] at h7
    have ep : p = 0 := by rcases hp with h | h; exact h; omega
    refine ⟨120, nI 60, by omega, ?_, fun S' m ho hv hm => ?_⟩
    · have := gc_F_nextFull (la := la) hst h7
      refine gM_mono this (fun v S' q => ⟨q.1, ?_⟩)
      rw [q.2, ← h7, gI_id]
    · rw [if_pos (by omega)]
      exact h0.keep ho (by rw [hv, h7])
theorem gc_send {G : gG} {la : Launch} {M : mM} {p i0 : Nat} {kc : Option (Nat × List Int32)} {S : gS} {i : Nat} {kind to no o g : Int32} (hi : i < G.1) (h : CR G M p i0 kc S) (hp : p = 0 ∨ M.2.2.length < 60) :
    gM G la qy_N_send qw_N_send 2 0 0 (gTt G) (gTt G) [.inr (some (7, i, 0)), .inl kind, .inl to, .inl no, .inl o, .inl g] S (fun v S' => v = none ∧ CR G (mSend G.1 M kind i to no o g) p i0 kc S' ∧ gFr S S') := by
  have h0 := h
  obtain ⟨hK, hE, hN, hL, hC, hF⟩ := h
  obtain ⟨a, v, ha, hM, hpost⟩ := hF.next (la := la) hK.1 hp
  have hK1 : cK G (gI S (3, 0, 0) 3 v) := hK.I (by simp)
  by_cases hk : kind = 6 ∨ kind = 7
  · refine gM_mono (gc_N_sendT hi ha hK hK1 hM hk) (fun v' S' q => ⟨q.1, ?_⟩)
    obtain ⟨-, rfl⟩ := q
    have et : mTab (gI S (3, 0, 0) 3 v) i G.1 = mTable G.1 M i := by
      unfold mTab mTable
      apply List.filter_congr
      intro m hm
      rw [gI1, if_neg (fun q => by simp at q), hE i m 0 hi (List.mem_range.mp hm) (by decide)]
    have e : mSend G.1 M kind i to no o g = mPush (mSpend M i []) (mMsg kind (nI i) to no o g (mTable G.1 M i).length (mNews M i (mTable G.1 M i))) := by
      unfold mSend
      rw [if_pos hk, mSpend_nil]
    rw [e, et]
    have ho := offMsg_t (S := S) (a := a) (i := i) (l := mTable G.1 M i) (v := v) (kind := kind) (s := nI i) (r := to) (no := no) (o := o) (g := g)
    refine h0.sent ho (fun k hk => ?_) hi (fun i' j f hi' hj hf => ?_) (hpost _ _ ho ?_ ?_)
    · funext f
      exact ho.2.1 k f (fun q => by omega) (fun q => by rw [q] at hk; simp at hk) (fun q => by omega) (fun q => by rw [q] at hk; simp at hk)
    · rw [mSpend_nil, sLoad_off (by simp) (fun q => by cases q), sHdr_o (by simp), gI1, if_neg (fun q => by simp at q)]
      exact hE i' j f hi' hj hf
    · rw [sLoad_off (by simp) (fun q => by cases q), sHdr_o (by simp), gI1, if_pos ⟨rfl, rfl⟩]
    · refine isMsg_new (Nat.le_trans mTable_len hK.2.1) (fun f hf => ?_) ?_ (fun t ht => ?_)
      · rw [sLoad_off (by simp) (fun _ => by omega), sHdr_f f hf]
      · rw [sLoad_c (c := 0) sHdr_6, Nat.zero_add]
      · have hn := (sLoad_n (a := a) (i := i) (l := mTable G.1 M i) (c := 0) (S := sHdr (gI S (3, 0, 0) 3 v) a kind (nI i) to no o g)).2 t ht
        rw [Nat.zero_add] at hn
        have hmn : (mTable G.1 M i).getD t 0 < G.1 := by
          have : (mTable G.1 M i).getD t 0 ∈ mTable G.1 M i := by rw [List.getD_eq_getElem?_getD, List.getElem?_eq_getElem ht]; exact List.getElem_mem ht
          exact mTable_in this
        rw [sHdr_o (by simp), sHdr_o (by simp), gI1, if_neg (fun q => by simp at q), gI1, if_neg (fun q => by simp at q), hE i _ 0 hi hmn (by decide), hE i _ 1 hi hmn (by decide)] at hn
        exact hn
  · refine gM_mono (gc_N_sendQ hi ha hK hK1 hM ⟨fun q => hk (Or.inl q), fun q => hk (Or.inr q)⟩) (fun v' S' q => ⟨q.1, ?_⟩)
    obtain ⟨-, rfl⟩ := q
    have et : mPick G.1 3 (qm (gI S (3, 0, 0) 3 v) i []) = mPk G.1 M i := by
      unfold mPk
      apply mPick_congr
      intro m hm
      show (if m ∈ [] then (0 : Int32) else (gI S (3, 0, 0) 3 v).1 (9, i, m) 4) = _
      rw [if_neg (by simp), gI1, if_neg (fun q => by simp at q), hE i m 4 hi hm (by decide)]
    have e : mSend G.1 M kind i to no o g = mPush (mSpend M i (mPk G.1 M i)) (mMsg kind (nI i) to no o g (mPk G.1 M i).length (mNews M i (mPk G.1 M i))) := by
      unfold mSend
      rw [if_neg hk]
    rw [e, et]
    have hnd : (mPk G.1 M i).Nodup := mPick_nd
    have ho := offMsg_q (S := S) (a := a) (i := i) (l := mPk G.1 M i) (v := v) (kind := kind) (s := nI i) (r := to) (no := no) (o := o) (g := g)
    refine h0.sent ho (fun k hk => ?_) hi (fun i' j f hi' hj hf => ?_) (hpost _ _ ho ?_ ?_)
    · funext f
      exact ho.2.1 k f (fun q => by omega) (fun q => by rw [q] at hk; simp at hk) (fun q => by omega) (fun q => by rw [q] at hk; simp at hk)
    · have hb : (sHdr (gI S (3, 0, 0) 3 v) a kind (nI i) to no o g).1 (9, i', j) f = M.1 f i' j := by
        rw [sHdr_o (by simp), gI1, if_neg (fun q => by simp at q)]
        exact hE i' j f hi' hj hf
      show _ = (if f = 4 ∧ i' = i ∧ j ∈ mPk G.1 M i then M.1 4 i j - 1 else M.1 f i' j)
      by_cases q : f = 4 ∧ i' = i
      · obtain ⟨rfl, rfl⟩ := q
        rw [sQ_s hnd, hb]
        by_cases q2 : j ∈ mPk G.1 M i'
        · rw [if_pos q2, if_pos ⟨rfl, rfl, q2⟩]
        · rw [if_neg q2, if_neg (fun z => q2 z.2.2)]
      · rw [if_neg (fun z => q ⟨z.1, z.2.1⟩), sQ_off (by simp) (fun z => by cases z) (fun _ => by
          by_cases q3 : f = 4
          · exact Or.inr (Or.inl (fun z => q ⟨q3, z⟩))
          · exact Or.inl q3), hb]
    · rw [sQ_off (by simp) (fun q => by cases q) (fun q => by simp at q), sHdr_o (by simp), gI1, if_pos ⟨rfl, rfl⟩]
    · refine isMsg_new (Nat.le_trans mPick_len (by decide)) (fun f hf => ?_) ?_ (fun t ht => ?_)
      · rw [sQ_off (by simp) (fun _ => by omega) (fun q => by simp at q), sHdr_f f hf]
      · rw [sQ_c (c := 0) sHdr_6, Nat.zero_add]
      · have hn := (sQ_n (a := a) (i := i) (l := mPk G.1 M i) (c := 0) (S := sHdr (gI S (3, 0, 0) 3 v) a kind (nI i) to no o g)).2 t ht
        rw [Nat.zero_add] at hn
        have hmn : (mPk G.1 M i).getD t 0 < G.1 := by
          have : (mPk G.1 M i).getD t 0 ∈ mPk G.1 M i := by rw [List.getD_eq_getElem?_getD, List.getElem?_eq_getElem ht]; exact List.getElem_mem ht
          exact (mPick_in this).1
        rw [sHdr_o (by simp), sHdr_o (by simp), gI1, if_neg (fun q => by simp at q), gI1, if_neg (fun q => by simp at q), hE i _ 0 hi hmn (by decide), hE i _ 1 hi hmn (by decide)] at hn
        exact hn
end
section
/-! single stores, lifted -/
theorem CF.of {S S' : gS} {fl : List (List Int32)} {p i0 : Nat} {kc : Option (Nat × List Int32)} (h : CF S fl p i0 kc) (h3 : ∀ f, S'.2 (3, 0, 0) f = S.2 (3, 0, 0) f) (h4 : ∀ c k, S'.2 (4, c, 0) k = S.2 (4, c, 0) k) (hz : S'.1 (3, 0, 0) 3 = S.1 (3, 0, 0) 3) (h5 : ∀ a f, S'.1 (5, a, 0) f = S.1 (5, a, 0) f) (h6 : ∀ a j, S'.1 (6, a, 0) j = S.1 (6, a, 0) j) : CF S' fl p i0 kc := by
  obtain ⟨b, σ, hb, a1, a2, a3, a4, a5, a6, a7, a8, a9, a10, a11⟩ := h
  have hm : ∀ a m, isMsg S a m → isMsg S' a m := fun a m q => q.of (fun f _ => h5 a f) (h6 a)
  exact ⟨b, σ, hb, by rw [h3]; exact a1, by rw [h3]; exact a2, fun c k hc hk => by rw [h4]; exact a3 c k hc hk, a4, a5, a6, by rw [hz]; exact a7, fun k hk => hm _ _ (a8 k hk), a9, fun q hq => hm _ _ (a10 q hq), fun a msg q => ⟨(a11 a msg q).1, (a11 a msg q).2.1, hm _ _ (a11 a msg q).2.2⟩⟩
theorem mSet_ne {M : mM} {f i j f' i' j' : Nat} {v : Int32} (h : ¬ (f' = f ∧ i' = i ∧ j' = j)) : (mSet M f i j v).1 f' i' j' = M.1 f' i' j' := if_neg h
theorem mSet_eq {M : mM} {f i j : Nat} {v : Int32} : (mSet M f i j v).1 f i j = v := if_pos ⟨rfl, rfl, rfl⟩
theorem CR.E {G : gG} {M : mM} {p i0 : Nat} {kc : Option (Nat × List Int32)} {S : gS} (h : CR G M p i0 kc S) {i j f : Nat} (hf : f < 5) (v : Int32) : CR G (mSet M f i j v) p i0 kc (gI S (9, i, j) f v) ∧ gFr S (gI S (9, i, j) f v) := by
  obtain ⟨hK, hE, hN, hL, hC, hF⟩ := h
  refine ⟨⟨hK.I (by simp), ?_, ?_, ?_, ⟨?_, ?_⟩, ?_⟩, gFr.I (by simp)⟩
  · intro i' j' f' hi' hj' hf'
    rw [gI1]
    by_cases q : f' = f ∧ i' = i ∧ j' = j
    · obtain ⟨rfl, rfl, rfl⟩ := q
      rw [if_pos ⟨rfl, rfl⟩, mSet_eq]
    · rw [mSet_ne q, if_neg (fun z => q ⟨z.2, by simpa using congrArg (fun k : gK => k.2.1) z.1, by simpa using congrArg (fun k : gK => k.2.2) z.1⟩)]
      exact hE i' j' f' hi' hj' hf'
  · intro i' f' hi' h5 h18 h8
    rw [gI1, if_neg (fun z => by simp at z), hN i' f' hi' h5 h18 h8, mSet_ne (by omega)]
  · intro i' hi'
    exact (hL i' hi').of (by rw [gI1, if_neg (fun z => by simp at z)]) (fun _ => rfl) (fun k f => by rw [gI1, if_neg (fun z => by simp at z)])
  · intro i' hi'
    obtain ⟨l, h1, h2⟩ := hC.1 i' hi'
    exact ⟨l, by rw [gI1, if_neg (fun z => by simp at z)]; exact h1, fun j hj => by rw [h2 j hj, mSet_ne (by omega)]⟩
  · rw [gI1, if_neg (fun z => by simp at z), hC.2, mSet_ne (by omega)]
  · exact hF.of (fun _ => rfl) (fun _ _ => rfl) (by rw [gI1, if_neg (fun z => by simp at z)]) (fun a f => by rw [gI1, if_neg (fun z => by simp at z)]) (fun a j => by rw [gI1, if_neg (fun z => by simp at z)])
theorem CR.N {G : gG} {M : mM} {p i0 : Nat} {kc : Option (Nat × List Int32)} {S : gS} (h : CR G M p i0 kc S) {i f : Nat} (h5 : 5 ≤ f) (h18 : f < 18) (h8 : f ≠ 8) (v : Int32) : CR G (mSet M (10 + f) i 0 v) p i0 kc (gI S (7, i, 0) f v) ∧ gFr S (gI S (7, i, 0) f v) := by
  obtain ⟨hK, hE, hN, hL, hC, hF⟩ := h
  refine ⟨⟨hK.I ⟨by simp, fun _ => by omega⟩, ?_, ?_, ?_, ⟨?_, ?_⟩, ?_⟩, gFr.I (by simp)⟩
  · intro i' j' f' hi' hj' hf'
    rw [gI1, if_neg (fun z => by simp at z), hE i' j' f' hi' hj' hf', mSet_ne (by omega)]
  · intro i' f' hi' h5' h18' h8'
    rw [gI1]
    by_cases q : i' = i ∧ f' = f
    · obtain ⟨rfl, rfl⟩ := q
      rw [if_pos ⟨rfl, rfl⟩, mSet_eq]
    · rw [if_neg (fun z => q ⟨by simpa using congrArg (fun k : gK => k.2.1) z.1, z.2⟩), mSet_ne (by omega)]
      exact hN i' f' hi' h5' h18' h8'
  · intro i' hi'
    exact (hL i' hi').of (by rw [gI1, if_neg (fun z => h8 z.2.symm)]) (fun _ => rfl) (fun k f => by rw [gI1, if_neg (fun z => by simp at z)])
  · intro i' hi'
    obtain ⟨l, h1, h2⟩ := hC.1 i' hi'
    exact ⟨l, by rw [gI1, if_neg (fun z => by simp at z)]; exact h1, fun j hj => by rw [h2 j hj, mSet_ne (by omega)]⟩
  · rw [gI1, if_neg (fun z => by simp at z), hC.2, mSet_ne (by omega)]
  · exact hF.of (fun _ => rfl) (fun _ _ => rfl) (by rw [gI1, if_neg (fun z => by simp at z)]) (fun a f => by rw [gI1, if_neg (fun z => by simp at z)]) (fun a j => by rw [gI1, if_neg (fun z => by simp at z)])
/-! to learn -/
def mBecome (M : mM) (i j : Nat) (s inc now : Int32) : mM := mSet (mSet (mSet (mSet (mSet M 0 i j s) 1 i j inc) 2 i j now) 3 i j 0) 4 i j 4
def mMin4 (x : Int32) : Int32 := if x < 4 then x else 4
def mBit (x : Int32) : Int32 := 1 <<< (x &&& 31)
def mLearn (M : mM) (i m : Nat) (s inc fr w : Int32) : mM :=
  if m = i then
    if s = 1 then M
    else mSet (if M.1 1 i i ≤ inc then mSet (mBecome M i i 1 (inc + 1) w) 17 i 0 (mMin4 (M.1 17 i 0 + 1)) else M) 4 i i 4
  else if M.1 0 i m = 0 ∨ M.1 1 i m < inc ∨ (inc = M.1 1 i m ∧ M.1 0 i m < s) then
    if s = 2 then mSet (mBecome M i m 2 inc w) 3 i m (mBit fr) else mBecome M i m s inc w
  else if M.1 0 i m = 2 ∧ s = 2 ∧ inc = M.1 1 i m then mSet M 3 i m (M.1 3 i m ||| mBit fr)
  else M
theorem CR.become {G : gG} {M : mM} {p i0 : Nat} {kc : Option (Nat × List Int32)} {S : gS} (h : CR G M p i0 kc S) {i j : Nat} (s inc now : Int32) : CR G (mBecome M i j s inc now) p i0 kc (sBecome S i j s inc now) ∧ gFr S (sBecome S i j s inc now) := by
  have h1 := h.E (i := i) (j := j) (f := 0) (by decide) s
  have h2 := h1.1.E (i := i) (j := j) (f := 1) (by decide) inc
  have h3 := h2.1.E (i := i) (j := j) (f := 2) (by decide) now
  have h4 := h3.1.E (i := i) (j := j) (f := 3) (by decide) 0
  have h5 := h4.1.E (i := i) (j := j) (f := 4) (by decide) 4
  exact ⟨h5.1, (((h1.2.tr h2.2).tr h3.2).tr h4.2).tr h5.2⟩
end
section
theorem bI_t {P : Prop} [Decidable P] (h : ¬ bI (decide P) = 0) : P := Classical.byContradiction (fun q => h (by simp [bI, q]))
theorem bI_f {P : Prop} [Decidable P] (h : bI (decide P) = 0) : ¬ P := fun q => by simp [bI, q] at h
theorem gc_N_refute {G : gG} {la : Launch} {M : mM} {p i0 : Nat} {kc : Option (Nat × List Int32)} {S : gS} {i : Nat} {inc w : Int32} (hi : i < G.1) (h : CR G M p i0 kc S) : gM G la qy_N_refute qw_N_refute 2 0 0 (gTt G) (gTt G) [.inr (some (7, i, 0)), .inl inc, .inl w] S (fun v S' => v = none ∧ CR G (mSet (if M.1 1 i i ≤ inc then mSet (mBecome M i i 1 (inc + 1) w) 17 i 0 (mMin4 (M.1 17 i 0 + 1)) else M) 4 i i 4) p i0 kc S' ∧ gFr S S') := by
  refine gM_of (cc := qc_N_refute) (maxL := 4) (by decide) rfl (Nat.le_of_ble_eq_true rfl) ?_
  intro E cx hr hnm hcz hsz hEl
  subst hEl
  have hst := h.1.1
  have hid := (h.1.2.2.2.1 i hi).1
  have h8 := h.1.2.1
  have hinc : S.1 (9, i, i) 1 = M.1 1 i i := h.2.1 i i 1 hi hi (by decide)
  have hsc : S.1 (7, i, 0) 7 = M.1 17 i 0 := h.2.2.1 i 7 hi (by decide) (by decide) (by decide)
  refine gz_aload_n (pc := 0) cx qd_N_refute_0 rfl rfl ?_
  refine gz_getR (pc := 1) cx qf_N_30 qd_N_refute_1 (gm_N (by assumption)) rfl rfl (hst _ _ _ rfl) ?_
  refine gz_aload_n (pc := 4) cx qd_N_refute_4 rfl rfl ?_
  refine gz_getI (pc := 5) cx qf_N_17 qd_N_refute_5 (gm_N (by assumption)) rfl rfl ?_
  refine gz_aaload (pc := 8) cx qd_N_refute_8 (by first | exact gm_tb (by assumption) | exact gm_ns | exact gm_cf | exact gm_w (by assumption) | exact gm_nw (by assumption) | exact gm_rs (by assumption) | exact gm_M (by assumption) | exact gm_R (by assumption) (by assumption) | exact gm_za (by decide) (by decide)) rfl ⟨by decide, by decide, rfl⟩ (hst _ _ _ rfl) hid (by assumption) (by omega) ?_
  refine gz_astore_n (pc := 9) cx qd_N_refute_9 rfl (Nat.le_of_ble_eq_true rfl) ?_
  refine gz_iload_n (pc := 10) cx qd_N_refute_10 rfl rfl ?_
  refine gz_aload_n (pc := 11) cx qd_N_refute_11 rfl rfl ?_
  refine gz_getI (pc := 12) cx qf_N_83 qd_N_refute_12 (gm_E (by assumption) (by assumption)) rfl rfl ?_
  refine gz_icmp_lt (tgt := 32) (pc := 15) cx qd_N_refute_15 (by decide) (fun h15 => ?_) (fun h15 => ?_)
  · refine gz_aload_n (pc := 32) cx qd_N_refute_32 rfl rfl ?_
    refine gz_callV (pc := 33) cx qv_N_181 qd_N_refute_33 (gc_E_announce hi hi) (by decide) rfl (gm_E (by assumption) (by assumption)) rfl rfl rfl rfl (Nat.le_of_ble_eq_true rfl) ⟨Nat.zero_le _, Nat.zero_le _⟩ ?_
    rintro _ _ ⟨rfl, rfl⟩
    refine gz_return (pc := 36) cx hr qd_N_refute_36 ?_
    rw [hinc] at h15
    rw [if_neg (Int32.not_le.mpr h15)]
    obtain ⟨c1, f1⟩ := h.E (i := i) (j := i) (f := 4) (by decide) 4
    exact ⟨rfl, c1, f1⟩
  · refine gz_aload_n (pc := 18) cx qd_N_refute_18 rfl rfl ?_
    refine gz_iconst (v := 1) (pc := 19) cx qd_N_refute_19 (by decide) ?_
    refine gz_iload_n (pc := 20) cx qd_N_refute_20 rfl rfl ?_
    refine gz_iconst (v := 1) (pc := 21) cx qd_N_refute_21 (by decide) ?_
    refine gz_iadd (pc := 22) cx qd_N_refute_22 ?_
    refine gz_iload_n (pc := 23) cx qd_N_refute_23 rfl rfl ?_
    refine gz_callV (pc := 24) cx qv_N_39 qd_N_refute_24 (gc_E_become hi hi) (by decide) rfl (gm_E (by assumption) (by assumption)) rfl rfl rfl rfl (Nat.le_of_ble_eq_true rfl) ⟨Nat.zero_le _, Nat.zero_le _⟩ ?_
    rintro _ _ ⟨rfl, rfl⟩
    refine gz_aload_n (pc := 27) cx qd_N_refute_27 rfl rfl ?_
    refine gz_iconst (v := 1) (pc := 28) cx qd_N_refute_28 (by decide) ?_
    refine gz_callV (pc := 29) cx qv_N_177 qd_N_refute_29 (gc_N_raiseScore hi) (by decide) rfl (gm_N (by assumption)) rfl rfl rfl rfl (Nat.le_of_ble_eq_true rfl) ⟨Nat.zero_le _, Nat.zero_le _⟩ ?_
    rintro _ _ ⟨rfl, rfl⟩
    refine gz_aload_n (pc := 32) cx qd_N_refute_32 rfl rfl ?_
    refine gz_callV (pc := 33) cx qv_N_181 qd_N_refute_33 (gc_E_announce hi hi) (by decide) rfl (gm_E (by assumption) (by assumption)) rfl rfl rfl rfl (Nat.le_of_ble_eq_true rfl) ⟨Nat.zero_le _, Nat.zero_le _⟩ ?_
    rintro _ _ ⟨rfl, rfl⟩
    refine gz_return (pc := 36) cx hr qd_N_refute_36 ?_
    rw [hinc] at h15
    rw [if_pos (Int32.not_lt.mp h15)]
    obtain ⟨c1, f1⟩ := h.become (i := i) (j := i) 1 (inc + 1) w
    have e7 : (sBecome S i i 1 (inc + 1) w).1 (7, i, 0) 7 = M.1 17 i 0 := (c1.2.2.1 i 7 hi (by decide) (by decide) (by decide)).trans rfl
    obtain ⟨c2, f2⟩ := c1.N (i := i) (f := 7) (by decide) (by decide) (by decide) (mMin4 (M.1 17 i 0 + 1))
    obtain ⟨c3, f3⟩ := c2.E (i := i) (j := i) (f := 4) (by decide) 4
    rw [e7]
    exact ⟨rfl, c3, (f1.tr f2).tr f3⟩
theorem gc_N_learn {G : gG} {la : Launch} {M : mM} {p i0 : Nat} {kc : Option (Nat × List Int32)} {S : gS} {i m : Nat} {s inc fr w : Int32} (hi : i < G.1) (hm : m < G.1) (h : CR G M p i0 kc S) : gM G la qy_N_learn qw_N_learn 3 0 0 (gTt G) (gTt G) [.inr (some (7, i, 0)), .inl (nI m), .inl s, .inl inc, .inl fr, .inl w] S (fun v S' => v = none ∧ CR G (mLearn M i m s inc fr w) p i0 kc S' ∧ gFr S S') := by
  refine gM_of (cc := qc_N_learn) (maxL := 7) (by decide) rfl (Nat.le_of_ble_eq_true rfl) ?_
  intro E cx hr hnm hcz hsz hEl
  subst hEl
  have hst := h.1.1
  have hid := (h.1.2.2.2.1 i hi).1
  have h8 := h.1.2.1
  have e0 : S.1 (9, i, m) 0 = M.1 0 i m := h.2.1 i m 0 hi hm (by decide)
  have e1 : S.1 (9, i, m) 1 = M.1 1 i m := h.2.1 i m 1 hi hm (by decide)
  have e3 : S.1 (9, i, m) 3 = M.1 3 i m := h.2.1 i m 3 hi hm (by decide)
  have hmi : nI m = S.1 (7, i, 0) 0 ↔ m = i := by rw [hid]; exact nI_eq (by omega) (by omega)
  refine gz_aload_n (pc := 0) cx qd_N_learn_0 rfl rfl ?_
  refine gz_getR (pc := 1) cx qf_N_30 qd_N_learn_1 (gm_N (by assumption)) rfl rfl (hst _ _ _ rfl) ?_
  refine gz_iload_n (pc := 4) cx qd_N_learn_4 rfl rfl ?_
  refine gz_aaload (pc := 5) cx qd_N_learn_5 (by first | exact gm_tb (by assumption) | exact gm_ns | exact gm_cf | exact gm_w (by assumption) | exact gm_nw (by assumption) | exact gm_rs (by assumption) | exact gm_M (by assumption) | exact gm_R (by assumption) (by assumption) | exact gm_za (by decide) (by decide)) rfl ⟨by decide, by decide, rfl⟩ (hst _ _ _ rfl) rfl (by assumption) (by omega) ?_
  refine gz_astore (pc := 6) cx qd_N_learn_6 (Nat.le_of_ble_eq_true rfl) ?_
  refine gz_iload_n (pc := 8) cx qd_N_learn_8 rfl rfl ?_
  refine gz_aload_n (pc := 9) cx qd_N_learn_9 rfl rfl ?_
  refine gz_getI (pc := 10) cx qf_N_17 qd_N_learn_10 (gm_N (by assumption)) rfl rfl ?_
  refine gz_icmp_ne (tgt := 31) (pc := 13) cx qd_N_learn_13 (by decide) (fun h13 => ?_) (fun h13 => ?_)
  · refine gz_aload (pc := 31) cx qd_N_learn_31 rfl ?_
    refine gz_iload_n (pc := 33) cx qd_N_learn_33 rfl rfl ?_
    refine gz_iload_n (pc := 34) cx qd_N_learn_34 rfl rfl ?_
    refine gz_callV (pc := 35) cx qv_N_164 qd_N_learn_35 (gc_E_isBelow hi hm) (by decide) rfl (gm_E (by assumption) (by assumption)) rfl rfl rfl rfl (Nat.le_of_ble_eq_true rfl) ⟨Nat.zero_le _, Nat.zero_le _⟩ ?_
    rintro _ S' ⟨rfl, hS'⟩
    subst hS'
    refine gz_if_eq (tgt := 71) (pc := 38) cx qd_N_learn_38 (by decide) (fun h38 => ?_) (fun h38 => ?_)
    · refine gz_aload (pc := 71) cx qd_N_learn_71 rfl ?_
      refine gz_iload_n (pc := 73) cx qd_N_learn_73 rfl rfl ?_
      refine gz_iload_n (pc := 74) cx qd_N_learn_74 rfl rfl ?_
      refine gz_callV (pc := 75) cx qv_N_171 qd_N_learn_75 (gc_E_isSameSuspicion hi hm) (by decide) rfl (gm_E (by assumption) (by assumption)) rfl rfl rfl rfl (Nat.le_of_ble_eq_true rfl) ⟨Nat.zero_le _, Nat.zero_le _⟩ ?_
      rintro _ S' ⟨rfl, hS'⟩
      subst hS'
      refine gz_if_eq (tgt := 95) (pc := 78) cx qd_N_learn_78 (by decide) (fun h78 => ?_) (fun h78 => ?_)
      · refine gz_return (pc := 95) cx hr qd_N_learn_95 ?_
        have hne : ¬ m = i := fun q => h13 (hmi.mpr q)
        have hb : ¬ (M.1 0 i m = 0 ∨ M.1 1 i m < inc ∨ (inc = M.1 1 i m ∧ M.1 0 i m < s)) := by rw [e0, e1] at h38; exact bI_f h38
        have hs : ¬ (M.1 0 i m = 2 ∧ s = 2 ∧ inc = M.1 1 i m) := by rw [e0, e1] at h78; simpa [bI] using h78
        unfold mLearn
        rw [if_neg hne, if_neg hb, if_neg hs]
        exact ⟨rfl, h, gFr.rf⟩
      · refine gz_aload (pc := 81) cx qd_N_learn_81 rfl ?_
        refine gz_dup (pc := 83) cx qd_N_learn_83 ?_
        refine gz_getI (pc := 84) cx qf_N_174 qd_N_learn_84 (gm_E (by assumption) (by assumption)) rfl rfl ?_
        refine gz_iconst (v := 1) (pc := 87) cx qd_N_learn_87 (by decide) ?_
        refine gz_iload (pc := 88) cx qd_N_learn_88 rfl ?_
        refine gz_ishl (pc := 90) cx qd_N_learn_90 ?_
        refine gz_ior (pc := 91) cx qd_N_learn_91 ?_
        refine gz_putI (pc := 92) cx qp_N_174 qd_N_learn_92 (gm_E (by assumption) (by assumption)) rfl rfl ⟨rfl, rfl⟩ (fun h => nomatch h) ?_
        refine gz_return (pc := 95) cx hr qd_N_learn_95 ?_
        have hne : ¬ m = i := fun q => h13 (hmi.mpr q)
        have hb : ¬ (M.1 0 i m = 0 ∨ M.1 1 i m < inc ∨ (inc = M.1 1 i m ∧ M.1 0 i m < s)) := by rw [e0, e1] at h38; exact bI_f h38
        have hs : M.1 0 i m = 2 ∧ s = 2 ∧ inc = M.1 1 i m := by rw [e0, e1] at h78; simpa [bI] using h78
        unfold mLearn
        rw [if_neg hne, if_neg hb, if_pos hs, e3]
        obtain ⟨c1, f1⟩ := h.E (i := i) (j := m) (f := 3) (by decide) (M.1 3 i m ||| mBit fr)
        exact ⟨rfl, c1, f1⟩
    · refine gz_iload_n (pc := 41) cx qd_N_learn_41 rfl rfl ?_
      refine gz_iconst (v := 2) (pc := 42) cx qd_N_learn_42 (by decide) ?_
      refine gz_icmp_ne (tgt := 59) (pc := 43) cx qd_N_learn_43 (by decide) (fun h43 => ?_) (fun h43 => ?_)
      · refine gz_aload (pc := 59) cx qd_N_learn_59 rfl ?_
        refine gz_iload_n (pc := 61) cx qd_N_learn_61 rfl rfl ?_
        refine gz_iload_n (pc := 62) cx qd_N_learn_62 rfl rfl ?_
        refine gz_iload (pc := 63) cx qd_N_learn_63 rfl ?_
        refine gz_callV (pc := 65) cx qv_N_39 qd_N_learn_65 (gc_E_become hi hm) (by decide) rfl (gm_E (by assumption) (by assumption)) rfl rfl rfl rfl (Nat.le_of_ble_eq_true rfl) ⟨Nat.zero_le _, Nat.zero_le _⟩ ?_
        rintro _ _ ⟨rfl, rfl⟩
        refine gz_goto (tgt := 95) (pc := 68) cx qd_N_learn_68 (by decide) ?_
        refine gz_return (pc := 95) cx hr qd_N_learn_95 ?_
        have hne : ¬ m = i := fun q => h13 (hmi.mpr q)
        have hb : M.1 0 i m = 0 ∨ M.1 1 i m < inc ∨ (inc = M.1 1 i m ∧ M.1 0 i m < s) := by rw [e0, e1] at h38; exact bI_t h38
        unfold mLearn
        rw [if_neg hne, if_pos hb, if_neg h43]
        obtain ⟨c1, f1⟩ := h.become (i := i) (j := m) s inc w
        exact ⟨rfl, c1, f1⟩
      · refine gz_aload (pc := 46) cx qd_N_learn_46 rfl ?_
        refine gz_iload_n (pc := 48) cx qd_N_learn_48 rfl rfl ?_
        refine gz_iload (pc := 49) cx qd_N_learn_49 rfl ?_
        refine gz_iload (pc := 51) cx qd_N_learn_51 rfl ?_
        refine gz_callV (pc := 53) cx qv_N_168 qd_N_learn_53 (gc_E_becomeSuspect hi hm) (by decide) rfl (gm_E (by assumption) (by assumption)) rfl rfl rfl rfl (Nat.le_of_ble_eq_true rfl) ⟨Nat.zero_le _, Nat.zero_le _⟩ ?_
        rintro _ _ ⟨rfl, rfl⟩
        refine gz_goto (tgt := 95) (pc := 56) cx qd_N_learn_56 (by decide) ?_
        refine gz_return (pc := 95) cx hr qd_N_learn_95 ?_
        have hne : ¬ m = i := fun q => h13 (hmi.mpr q)
        have hb : M.1 0 i m = 0 ∨ M.1 1 i m < inc ∨ (inc = M.1 1 i m ∧ M.1 0 i m < s) := by rw [e0, e1] at h38; exact bI_t h38
        unfold mLearn
        rw [if_neg hne, if_pos hb, if_pos h43]
        obtain ⟨c1, f1⟩ := h.become (i := i) (j := m) 2 inc w
        obtain ⟨c2, f2⟩ := c1.E (i := i) (j := m) (f := 3) (by decide) (mBit fr)
        exact ⟨rfl, c2, f1.tr f2⟩
  · refine gz_iload_n (pc := 16) cx qd_N_learn_16 rfl rfl ?_
    refine gz_iconst (v := 1) (pc := 17) cx qd_N_learn_17 (by decide) ?_
    refine gz_icmp_eq (tgt := 95) (pc := 18) cx qd_N_learn_18 (by decide) (fun h18 => ?_) (fun h18 => ?_)
    · refine gz_return (pc := 95) cx hr qd_N_learn_95 ?_
      have he : m = i := hmi.mp h13
      unfold mLearn
      rw [if_pos he, if_pos h18]
      exact ⟨rfl, h, gFr.rf⟩
    · refine gz_aload_n (pc := 21) cx qd_N_learn_21 rfl rfl ?_
      refine gz_iload_n (pc := 22) cx qd_N_learn_22 rfl rfl ?_
      refine gz_iload (pc := 23) cx qd_N_learn_23 rfl ?_
      refine gz_callV (pc := 25) cx qv_N_160 qd_N_learn_25 (gc_N_refute hi h) (by decide) rfl (gm_N (by assumption)) rfl rfl rfl rfl (Nat.le_of_ble_eq_true rfl) ⟨Nat.zero_le _, Nat.zero_le _⟩ ?_
      rintro _ S' ⟨rfl, hc, hf⟩
      refine gz_goto (tgt := 95) (pc := 28) cx qd_N_learn_28 (by decide) ?_
      refine gz_return (pc := 95) cx hr qd_N_learn_95 ?_
      have he : m = i := hmi.mp h13
      unfold mLearn
      rw [if_pos he, if_neg h18]
      exact ⟨rfl, hc, hf⟩
end
section
/-! relays, and places that move up -/
def sShift (S : gS) (K : gK) (k x : Nat) : gS := (S.1, fun k' j => if k' = K ∧ k ≤ j ∧ j < x then S.2 K (j + 1) else S.2 k' j)
theorem sShift_0 {S : gS} {K : gK} {k : Nat} : sShift S K k k = S := by
  have : (sShift S K k k).2 = S.2 := by
    funext k' j
    show (if k' = K ∧ k ≤ j ∧ j < k then S.2 K (j + 1) else S.2 k' j) = _
    rw [if_neg (by omega)]
  exact Prod.ext rfl this
theorem sShift_at {S : gS} {K : gK} {k x j : Nat} : (sShift S K k x).2 K j = if k ≤ j ∧ j < x then S.2 K (j + 1) else S.2 K j := by
  show (if K = K ∧ k ≤ j ∧ j < x then S.2 K (j + 1) else S.2 K j) = _
  simp only [true_and]
theorem sShift_ne {S : gS} {K k' : gK} {k x j : Nat} (h : k' ≠ K) : (sShift S K k x).2 k' j = S.2 k' j := if_neg (fun q => h q.1)
theorem sShift_s {S : gS} {K : gK} {k x : Nat} (h : k ≤ x) : gX (sShift S K k x) K x (S.2 K (x + 1)) = sShift S K k (x + 1) := by
  have : (gX (sShift S K k x) K x (S.2 K (x + 1))).2 = (sShift S K k (x + 1)).2 := by
    funext k' j
    rw [gX2]
    show _ = if k' = K ∧ k ≤ j ∧ j < x + 1 then S.2 K (j + 1) else S.2 k' j
    by_cases e : k' = K
    · subst e
      by_cases e2 : j = x
      · subst e2
        rw [if_pos ⟨rfl, rfl⟩, if_pos ⟨rfl, h, by omega⟩]
      · rw [if_neg (fun q => e2 q.2), sShift_at]
        by_cases e3 : k ≤ j ∧ j < x
        · rw [if_pos e3, if_pos ⟨rfl, e3.1, by omega⟩]
        · rw [if_neg e3, if_neg (by omega)]
    · rw [if_neg (fun q => e q.1), sShift_ne e, if_neg (fun q => e q.1)]
  exact Prod.ext rfl this
theorem gSt.of {G : gG} {S S' : gS} (h : gSt G S) (h2 : ∀ k f k', gStat k f = some k' → S'.2 k f = S.2 k f) : gSt G S' := fun k f k' q => (h2 k f k' q).trans (h k f k' q)
theorem gSt.shift10 {G : gG} {S : gS} {i k x : Nat} (h : gSt G S) : gSt G (sShift S (10, i, 0) k x) := h.of (fun k' f k2 q => sShift_ne (fun e => by rw [e] at q; cases q))
theorem gSt.shift4 {G : gG} {S : gS} {b k x : Nat} (h : gSt G S) : gSt G (sShift S (4, b, 0) k x) := h.of (fun k' f k2 q => sShift_ne (fun e => by rw [e] at q; cases q))
theorem gSt.X10 {G : gG} {S : gS} {i j : Nat} {r : Option gK} (h : gSt G S) : gSt G (gX S (10, i, 0) j r) := h.of (fun k' f k2 q => by rw [gX2, if_neg (fun e => by rw [e.1] at q; cases q)])
theorem gSt.X4 {G : gG} {S : gS} {i j : Nat} {r : Option gK} (h : gSt G S) : gSt G (gX S (4, i, 0) j r) := h.of (fun k' f k2 q => by rw [gX2, if_neg (fun e => by rw [e.1] at q; cases q)])
/-- the ended relay goes behind the others -/
def sEnd (S : gS) (i k len : Nat) : gS := gX (gI (sShift S (10, i, 0) k (len - 1)) (7, i, 0) 8 (nI (len - 1))) (10, i, 0) (len - 1) (S.2 (10, i, 0) k)
theorem CR.R {G : gG} {M : mM} {p i0 : Nat} {kc : Option (Nat × List Int32)} {S S' : gS} (h : CR G M p i0 kc S) {i : Nat} {r : List (List Int32)} (h1 : ∀ k f, k.1 ≠ 11 → ¬ (k.1 = 7 ∧ f = 8) → S'.1 k f = S.1 k f) (h11 : ∀ i' k f, i' ≠ i → S'.1 (11, i', k) f = S.1 (11, i', k) f) (h7 : ∀ i', i' ≠ i → S'.1 (7, i', 0) 8 = S.1 (7, i', 0) 8) (h2 : ∀ k f, k ≠ (10, i, 0) → S'.2 k f = S.2 k f) (hL' : CL S' i r) : CR G (mRl M i r) p i0 kc S' ∧ gFr S S' := by
  obtain ⟨hK, hE, hN, hL, hC, hF⟩ := h
  refine ⟨⟨?_, ?_, ?_, ?_, ⟨?_, ?_⟩, ?_⟩, fun k hk => ⟨funext fun f => h1 k f (by omega) (by omega), funext fun f => h2 k f (fun e => by rw [e] at hk; simp at hk)⟩⟩
  · exact hK.of (fun k f k' q => h2 k f (fun e => by rw [e] at q; cases q)) (fun i => ⟨h1 _ _ (by simp) (by simp), h1 _ _ (by simp) (by simp)⟩) (h1 _ _ (by simp) (by simp))
  · intro i' j' f' hi' hj' hf'
    rw [h1 _ _ (by simp) (by simp)]; exact hE i' j' f' hi' hj' hf'
  · intro i' f' hi' h5 h18 h8
    rw [h1 _ _ (by simp) (fun q => h8 q.2)]; exact hN i' f' hi' h5 h18 h8
  · intro i' hi'
    by_cases e : i' = i
    · subst e
      show CL S' i' (if i' = i' then r else M.2.1 i')
      rw [if_pos rfl]; exact hL'
    · show CL S' i' (if i' = i then r else M.2.1 i')
      rw [if_neg e]
      exact (hL i' hi').of (h7 i' e) (fun k => h2 _ _ (fun q => e (by simpa using q))) (fun k f => h11 i' k f e)
  · intro i' hi'
    obtain ⟨l, a1, a2⟩ := hC.1 i' hi'
    exact ⟨l, by rw [h1 _ _ (by simp) (by simp)]; exact a1, a2⟩
  · rw [h1 _ _ (by simp) (by simp)]; exact hC.2
  · exact hF.of (fun f => h2 _ _ (by simp)) (fun c k => h2 _ _ (by simp)) (h1 _ _ (by simp) (by simp)) (fun a f => h1 _ _ (by simp) (by simp)) (fun a j => h1 _ _ (by simp) (by simp))
theorem getD_erase {r : List (List Int32)} {k j : Nat} : (r.eraseIdx k).getD j [] = if j < k then r.getD j [] else r.getD (j + 1) [] := by
  rw [List.getD_eq_getElem?_getD, List.getElem?_eraseIdx]
  by_cases h : j < k <;> simp [h, List.getD_eq_getElem?_getD]
def rhoE (ρ : Nat → Nat) (k len j : Nat) : Nat := if j < k then ρ j else if j < len - 1 then ρ (j + 1) else if j = len - 1 then ρ k else ρ j
theorem CR.endRelay {G : gG} {M : mM} {p i0 : Nat} {kc : Option (Nat × List Int32)} {S : gS} (h : CR G M p i0 kc S) {i k : Nat} (hi : i < G.1) (hk : k < (M.2.1 i).length) : CR G (mRl M i ((M.2.1 i).eraseIdx k)) p i0 kc (sEnd S i k (M.2.1 i).length) ∧ gFr S (sEnd S i k (M.2.1 i).length) := by
  obtain ⟨ρ, a1, a2, a3, a4, a5⟩ := h.2.2.2.1 i hi
  refine h.R (fun k' f h11 h7 => ?_) (fun i' k' f _ => rfl) (fun i' hne => ?_) (fun k' f hne => ?_) ?_
  · show (gI _ _ _ _).1 k' f = _
    rw [gI1, if_neg (fun q => h7 ⟨by rw [q.1], q.2⟩)]; rfl
  · show (gI _ _ _ _).1 _ _ = _
    rw [gI1, if_neg (fun q => hne (by simpa using q.1))]; rfl
  · show (gX _ _ _ _).2 k' f = _
    rw [gX2, if_neg (fun q => hne q.1)]
    exact sShift_ne hne
  · refine ⟨rhoE ρ k (M.2.1 i).length, ?_, ?_, fun j hj => ?_, fun j j' hj hj' => ?_, fun j hj f hf => ?_⟩
    · rw [List.length_eraseIdx_of_lt hk]; omega
    · rw [List.length_eraseIdx_of_lt hk]
      show (gI _ _ _ _).1 _ _ = _
      rw [gI1, if_pos ⟨rfl, rfl⟩]
    · show (gX _ _ _ _).2 _ _ = _ ∧ _
      rw [gX2]
      by_cases e1 : j = (M.2.1 i).length - 1
      · have er : rhoE ρ k (M.2.1 i).length j = ρ k := by
          unfold rhoE
          rw [if_neg (by omega), if_neg (by omega), if_pos e1]
        rw [if_pos ⟨rfl, e1⟩, er]
        exact a3 k (by omega)
      · rw [if_neg (fun q => e1 q.2)]
        show (sShift S (10, i, 0) k ((M.2.1 i).length - 1)).2 (10, i, 0) j = _ ∧ _
        rw [sShift_at]
        by_cases e2 : j < k
        · have er : rhoE ρ k (M.2.1 i).length j = ρ j := by unfold rhoE; rw [if_pos e2]
          rw [if_neg (by omega), er]; exact a3 j hj
        · by_cases e3 : j < (M.2.1 i).length - 1
          · have er : rhoE ρ k (M.2.1 i).length j = ρ (j + 1) := by unfold rhoE; rw [if_neg e2, if_pos e3]
            rw [if_pos ⟨by omega, e3⟩, er]; exact a3 (j + 1) (by omega)
          · have er : rhoE ρ k (M.2.1 i).length j = ρ j := by unfold rhoE; rw [if_neg e2, if_neg e3, if_neg e1]
            rw [if_neg (by omega), er]; exact a3 j hj
    · intro q
      have key : ∀ x y, x < 4 → y < 4 → ρ x = ρ y → x = y := fun x y hx hy => a4 x y hx hy
      have cs : ∀ x, x < 4 → (x < k ∧ rhoE ρ k (M.2.1 i).length x = ρ x) ∨ (k ≤ x ∧ x < (M.2.1 i).length - 1 ∧ rhoE ρ k (M.2.1 i).length x = ρ (x + 1)) ∨ (x = (M.2.1 i).length - 1 ∧ rhoE ρ k (M.2.1 i).length x = ρ k) ∨ ((M.2.1 i).length ≤ x ∧ rhoE ρ k (M.2.1 i).length x = ρ x) := by
        intro x hx
        unfold rhoE
        by_cases e1 : x < k
        · exact Or.inl ⟨e1, by rw [if_pos e1]⟩
        · by_cases e2 : x < (M.2.1 i).length - 1
          · exact Or.inr (Or.inl ⟨by omega, e2, by rw [if_neg e1, if_pos e2]⟩)
          · by_cases e3 : x = (M.2.1 i).length - 1
            · exact Or.inr (Or.inr (Or.inl ⟨e3, by rw [if_neg e1, if_neg e2, if_pos e3]⟩))
            · exact Or.inr (Or.inr (Or.inr ⟨by omega, by rw [if_neg e1, if_neg e2, if_neg e3]⟩))
      rcases cs j hj with ⟨x1, x2⟩ | ⟨x1, x3, x2⟩ | ⟨x1, x2⟩ | ⟨x1, x2⟩ <;> rcases cs j' hj' with ⟨y1, y2⟩ | ⟨y1, y3, y2⟩ | ⟨y1, y2⟩ | ⟨y1, y2⟩ <;> (rw [x2, y2] at q; have := key _ _ (by omega) (by omega) q; omega)
    · rw [List.length_eraseIdx_of_lt hk] at hj
      rw [getD_erase]
      show S.1 (11, i, _) f = _
      unfold rhoE
      by_cases e2 : j < k
      · rw [if_pos e2, if_pos e2]; exact a5 j (by omega) f hf
      · rw [if_neg e2, if_neg e2, if_pos hj]; exact a5 (j + 1) (by omega) f hf
theorem CR.cur {G : gG} {M : mM} {p i0 : Nat} {a : Nat} {msg : List Int32} {S : gS} (h : CR G M p i0 (some (a, msg)) S) : a < 121 ∧ isMsg S a msg := by
  obtain ⟨b, σ, hb, a1, a2, a3, a4, a5, a6, a7, a8, a9, a10, a11⟩ := h.2.2.2.2.2
  obtain ⟨q1, q2, q3⟩ := a11 a msg rfl
  have := (a3 (1 - b) (i0 - 1) (by omega) (by omega)).2
  exact ⟨by omega, q3⟩
/-! what comes with a message -/
def mFind (r : List (List Int32)) (no o g : Int32) : Option Nat := r.findIdx? (fun x => decide (x.getD 0 0 = no ∧ x.getD 1 0 = o ∧ x.getD 2 0 = g))
def mOfProbe (M : mM) (i : Nat) (no : Int32) : Prop := M.1 21 i 0 ≠ -1 ∧ no = M.1 20 i 0
def mAck (n : Nat) (M : mM) (i : Nat) (no o g : Int32) : mM :=
  if o = nI i then (if M.1 21 i 0 ≠ -1 ∧ no = M.1 20 i 0 then mSet M 24 i 0 1 else M)
  else match mFind (M.2.1 i) no o g with
    | none => M
    | some k => mSend n (mRl M i ((M.2.1 i).eraseIdx k)) 2 i o no o g
def mAsk (n : Nat) (M : mM) (i : Nat) (no o g : Int32) : mM :=
  if 4 ≤ (M.2.1 i).length then M else mSend n (mRl M i (M.2.1 i ++ [[no, o, g, 0]])) 1 i g no o g
def mLearns (M : mM) (i : Nat) (msg : List Int32) (w : Int32) : Nat → mM
  | 0 => M
  | t + 1 => mLearn (mLearns M i msg w t) i (msg.getD (7 + 3 * t) 0).toNatClampNeg (msg.getD (7 + (3 * t + 1)) 0) (msg.getD (7 + (3 * t + 2)) 0) (msg.getD 1 0) w
def mTake (n : Nat) (M : mM) (i : Nat) (msg : List Int32) : mM :=
  if msg.getD 0 0 = 1 then mSend n M 2 i (msg.getD 1 0) (msg.getD 3 0) (msg.getD 4 0) (msg.getD 5 0)
  else if msg.getD 0 0 = 2 then mAck n M i (msg.getD 3 0) (msg.getD 4 0) (msg.getD 5 0)
  else if msg.getD 0 0 = 3 then mAsk n M i (msg.getD 3 0) (msg.getD 4 0) (msg.getD 5 0)
  else if msg.getD 0 0 = 4 then (if M.1 21 i 0 ≠ -1 ∧ msg.getD 3 0 = M.1 20 i 0 then mSet M 26 i 0 (M.1 26 i 0 + 1) else M)
  else if msg.getD 0 0 = 6 then mSend n M 7 i (msg.getD 1 0) 0 0 0
  else M
def mRecv (n : Nat) (M : mM) (i : Nat) (msg : List Int32) (w : Int32) : mM := mTake n (mLearns M i msg w (msg.getD 6 0).toNatClampNeg) i msg
def isN (n : Nat) (x : Int32) : Prop := ∃ m, m < n ∧ x = nI m
/-- a message is in order -/
def mWf (n : Nat) (msg : List Int32) : Prop := ∃ c, c ≤ 8 ∧ msg.length = 7 + 3 * c ∧ msg.getD 6 0 = nI c ∧ isN n (msg.getD 1 0) ∧ isN n (msg.getD 2 0) ∧ isN n (msg.getD 4 0) ∧ isN n (msg.getD 5 0) ∧ ∀ t, t < c → isN n (msg.getD (7 + 3 * t) 0)
section GZ3
variable {G : gG} {E : gEnv} {cells slots : Nat} {Q : State → Prop} {t pc : Nat} {lv : List (Option gV)} {st : List gV} {S : gS} {cc : ByteArray} {nL : Nat} {own : String} {d : Nat}
theorem gz_getV (cx : gC G E cc nL own d) {k : gK} {index ci f : Nat} {v : Int32} (hlk : gLk own index ci f) (hd : decode cc pc = .ok (.getfield index, 3)) (hk : k ∈ gKs G t) (hs : gSh G.1 k = .inl ci) (hr : gRf ci f = false) (hv : S.1 k f = v)
    (kk : gZ G E cells slots Q t (pc + 3) lv (.inl v :: st) S) : gZ G E cells slots Q t pc lv (.inr (some k) :: st) S := by
  subst hv
  exact gz_getI cx hlk hd hk hs hr kk
/-- a switch over 1 .. hi -/
theorem gz_switch1 (cx : gC G E cc nL own d) {dflt : Int} {offs : Array Int} {len : Nat} {x : Int32} (hi : Nat) (tg : Nat → Nat) (tgd : Nat) (hd : decode cc pc = .ok (.tableswitch dflt 1 (hi : Int) offs, len)) (hh : hi < 100) (ht : ∀ i, i < hi → ∃ off : Int, offs[i]? = some off ∧ (pc : Int) + off = (tg i : Int)) (htd : (pc : Int) + dflt = (tgd : Int))
    (kin : ∀ i, i < hi → x = nI (i + 1) → gZ G E cells slots Q t (tg i) lv st S) (kout : (∀ i, i < hi → x ≠ nI (i + 1)) → gZ G E cells slots Q t tgd lv st S) : gZ G E cells slots Q t pc lv (.inl x :: st) S := by
  by_cases h : vp_in x (hi + 1) ∧ x ≠ 0
  · obtain ⟨j, hj, rfl⟩ := vp_in_of h.1 (by omega)
    have hj0 : j ≠ 0 := fun q => h.2 (by rw [q]; rfl)
    obtain ⟨off, ho, hto⟩ := ht (j - 1) (by omega)
    have e := nI_toInt (n := j) (by omega)
    have ej : j - 1 + 1 = j := by omega
    refine gz_tableIn cx hd (by rw [e]; omega) (by rw [e]; omega) ?_ hto (kin (j - 1) (by omega) (by rw [ej]))
    rw [e]
    have : ((j : Int) - 1).toNat = j - 1 := by omega
    rw [this]
    exact ho
  · have h2 : ¬ (1 ≤ x.toInt ∧ x.toInt < ((hi + 1 : Nat) : Int)) := fun q => h ⟨vp_in_iff.mpr ⟨by omega, q.2⟩, fun z => by rw [z] at q; exact absurd q.1 (by decide)⟩
    refine gz_tableOut cx hd (by omega) htd (kout fun i hi2 hx => ?_)
    subst hx
    rw [nI_toInt (by omega)] at h2
    omega
end GZ3
/-- one more relay -/
theorem CR.addRelay {G : gG} {M : mM} {p i0 : Nat} {kc : Option (Nat × List Int32)} {S : gS} (h : CR G M p i0 kc S) {i : Nat} (hi : i < G.1) {x : Nat} {no o g : Int32} (hl : (M.2.1 i).length < 4) (hx : S.2 (10, i, 0) (M.2.1 i).length = some (11, i, x)) :
    CR G (mRl M i (M.2.1 i ++ [[no, o, g, 0]])) p i0 kc (gI (gI (gI (gI (gI S (7, i, 0) 8 (nI ((M.2.1 i).length + 1))) (11, i, x) 0 no) (11, i, x) 1 o) (11, i, x) 2 g) (11, i, x) 3 0) ∧ gFr S (gI (gI (gI (gI (gI S (7, i, 0) 8 (nI ((M.2.1 i).length + 1))) (11, i, x) 0 no) (11, i, x) 1 o) (11, i, x) 2 g) (11, i, x) 3 0) := by
  obtain ⟨ρ, a1, a2, a3, a4, a5⟩ := h.2.2.2.1 i hi
  have ex : ρ (M.2.1 i).length = x := by
    have := (a3 _ hl).1.symm.trans hx
    simpa using this
  refine h.R (fun k f h11 h7 => ?_) (fun i' k f hne => ?_) (fun i' hne => ?_) (fun k f hne => rfl) ?_
  · have q : ∀ y, ¬ (k = (11, i, x) ∧ f = y) := fun y q => h11 (by rw [q.1])
    rw [gI1, if_neg (q _), gI1, if_neg (q _), gI1, if_neg (q _), gI1, if_neg (q _), gI1, if_neg (fun q => h7 ⟨by rw [q.1], q.2⟩)]
  · have q : ∀ y, ¬ (((11, i', k) : gK) = (11, i, x) ∧ f = y) := fun y q => hne (by simpa using congrArg (fun z : gK => z.2.1) q.1)
    rw [gI1, if_neg (q _), gI1, if_neg (q _), gI1, if_neg (q _), gI1, if_neg (q _), gI1, if_neg (fun q => by simp at q)]
  · rw [gI1, if_neg (fun q => by simp at q), gI1, if_neg (fun q => by simp at q), gI1, if_neg (fun q => by simp at q), gI1, if_neg (fun q => by simp at q), gI1, if_neg (fun q => hne (by simpa using q.1))]
  · refine ⟨ρ, by rw [List.length_append]; simp only [List.length_cons, List.length_nil]; omega, ?_, a3, a4, fun k hk f hf => ?_⟩
    · rw [gI1, if_neg (fun q => by simp at q), gI1, if_neg (fun q => by simp at q), gI1, if_neg (fun q => by simp at q), gI1, if_neg (fun q => by simp at q), gI1, if_pos ⟨rfl, rfl⟩, List.length_append]
      rfl
    · rw [List.length_append] at hk
      simp only [List.length_cons, List.length_nil] at hk
      by_cases e : k = (M.2.1 i).length
      · subst e
        have eg : (M.2.1 i ++ [[no, o, g, 0]]).getD (M.2.1 i).length [] = [no, o, g, 0] := by
          rw [List.getD_eq_getElem?_getD, List.getElem?_append_right (Nat.le_refl _)]; simp
        rw [ex, eg]
        match f, hf with
        | 0, _ => simp [gI1]
        | 1, _ => simp [gI1]
        | 2, _ => simp [gI1]
        | 3, _ => simp [gI1]
        | f + 4, h => exact absurd h (by omega)
      · have eg : (M.2.1 i ++ [[no, o, g, 0]]).getD k [] = (M.2.1 i).getD k [] := by
          rw [List.getD_eq_getElem?_getD, List.getElem?_append_left (by omega), ← List.getD_eq_getElem?_getD]
        have hne : ρ k ≠ x := fun q => e (a4 k _ (by omega) hl (by rw [q, ex]))
        have q : ∀ y, ¬ (((11, i, ρ k) : gK) = (11, i, x) ∧ f = y) := fun y q => hne (by simpa using congrArg (fun z : gK => z.2.2) q.1)
        rw [gI1, if_neg (q _), gI1, if_neg (q _), gI1, if_neg (q _), gI1, if_neg (q _), gI1, if_neg (fun q => by simp at q), eg]
        exact a5 k (by omega) f hf
end
section
theorem getD_at {r : List (List Int32)} {j : Nat} (h : j < r.length) : r.getD j [] = r[j] := by
  rw [List.getD_eq_getElem?_getD, List.getElem?_eq_getElem h]; rfl
theorem gc_N_endRelay {G : gG} {la : Launch} {S : gS} {i k len : Nat} {ρ : Nat → Nat} (hi : i < G.1) (hst : gSt G S) (hl4 : len ≤ 4) (hk : k < len) (hcnt : S.1 (7, i, 0) 8 = nI len) (h10 : ∀ j, j < 4 → S.2 (10, i, 0) j = some (11, i, ρ j) ∧ ρ j < 4) : gM G la qy_N_endRelay qw_N_endRelay 0 0 0 (gTt G) (gTt G) [.inr (some (7, i, 0)), .inl (nI k)] S (fun v S' => v = none ∧ S' = sEnd S i k len) := by
  refine gM_of (cc := qc_N_endRelay) (maxL := 4) (by decide) rfl (Nat.le_of_ble_eq_true rfl) ?_
  intro E cx hr hnm hcz hsz hEl
  subst hEl
  have hpred : nI len - 1 = nI (len - 1) := by
    obtain ⟨z, rfl⟩ : ∃ z, len = z + 1 := ⟨len - 1, by omega⟩
    exact nI_pred z
  suffices h : ∀ x, x ≤ len - 1 → k ≤ x → gZ G E 0 0 (gEnd G E 0 0 (gTt G) (fun v S' => v = none ∧ S' = sEnd S i k len)) (gTt G) 9 [some (.inr (some (7, i, 0))), some (.inl (nI k)), some (.inr (some (11, i, ρ k))), some (.inl (nI x))] [] (sShift S (10, i, 0) k x) by
    refine gz_aload_n (pc := 0) cx qd_N_endRelay_0 rfl rfl ?_
    refine gz_getR (pc := 1) cx qf_N_13 qd_N_endRelay_1 (gm_N (by assumption)) rfl rfl (hst _ _ _ rfl) ?_
    refine gz_iload_n (pc := 4) cx qd_N_endRelay_4 rfl rfl ?_
    refine gz_aaload (pc := 5) cx qd_N_endRelay_5 (by first | exact gm_tb (by assumption) | exact gm_ns | exact gm_cf | exact gm_w (by assumption) | exact gm_nw (by assumption) | exact gm_rs (by assumption) | exact gm_M (by assumption) | exact gm_R (by assumption) (by assumption) | exact gm_za (by decide) (by decide)) rfl ⟨by decide, by decide, rfl⟩ (h10 k (by omega)).1 rfl (by omega) (by decide) ?_
    refine gz_astore_n (pc := 6) cx qd_N_endRelay_6 rfl (Nat.le_of_ble_eq_true rfl) ?_
    refine gz_iload_n (pc := 7) cx qd_N_endRelay_7 rfl rfl ?_
    refine gz_istore_n (pc := 8) cx qd_N_endRelay_8 rfl (Nat.le_of_ble_eq_true rfl) ?_
    have h0 := h k (by omega) (Nat.le_refl _)
    rw [sShift_0] at h0
    exact h0
  refine g_upto ?_ ?_
  · intro hkx
    have hst := hst.shift10 (i := i) (k := k) (x := len - 1)
    refine gz_iload_n (pc := 9) cx qd_N_endRelay_9 rfl rfl ?_
    refine gz_aload_n (pc := 10) cx qd_N_endRelay_10 rfl rfl ?_
    refine gz_getI (pc := 11) cx qf_N_53 qd_N_endRelay_11 (gm_N (by assumption)) rfl rfl ?_
    refine gz_iconst (v := 1) (pc := 14) cx qd_N_endRelay_14 (by decide) ?_
    refine gz_isub (pc := 15) cx qd_N_endRelay_15 ?_
    refine gz_icmp_ge (tgt := 39) (pc := 16) cx qd_N_endRelay_16 (by decide) (fun _ => ?_) (fun h16 => absurd (show S.1 (7, i, 0) 8 - 1 ≤ nI (len - 1) by rw [hcnt, hpred]; exact Int32.le_refl _) h16)
    refine gz_aload_n (pc := 39) cx qd_N_endRelay_39 rfl rfl ?_
    refine gz_dup (pc := 40) cx qd_N_endRelay_40 ?_
    refine gz_getI (pc := 41) cx qf_N_53 qd_N_endRelay_41 (gm_N (by assumption)) rfl rfl ?_
    refine gz_iconst (v := 1) (pc := 44) cx qd_N_endRelay_44 (by decide) ?_
    refine gz_isub (pc := 45) cx qd_N_endRelay_45 ?_
    refine gz_putI (pc := 46) cx qp_N_53 qd_N_endRelay_46 (gm_N (by assumption)) rfl rfl ⟨rfl, rfl⟩ (fun h => nomatch h) ?_
    refine gz_aload_n (pc := 49) cx qd_N_endRelay_49 rfl rfl ?_
    refine gz_getR (pc := 50) cx qf_N_13 qd_N_endRelay_50 (gm_N (by assumption)) rfl rfl (show (sShift S (10, i, 0) k (len - 1)).2 (7, i, 0) 4 = _ from hst _ _ _ rfl) ?_
    refine gz_aload_n (pc := 53) cx qd_N_endRelay_53 rfl rfl ?_
    refine gz_getI (pc := 54) cx qf_N_53 qd_N_endRelay_54 (gm_N (by assumption)) rfl rfl ?_
    refine gz_aload_n (pc := 57) cx qd_N_endRelay_57 rfl rfl ?_
    refine gz_aastore (pc := 58) cx qd_N_endRelay_58 (by first | exact gm_tb (by assumption) | exact gm_ns | exact gm_cf | exact gm_w (by assumption) | exact gm_nw (by assumption) | exact gm_rs (by assumption) | exact gm_M (by assumption) | exact gm_R (by assumption) (by assumption) | exact gm_za (by decide) (by decide)) (gm_R hi (h10 k (by omega)).2) rfl rfl ⟨by decide, by decide, rfl⟩ rfl (show _ = nI (len - 1) by rw [gI1, if_pos ⟨rfl, rfl⟩]; show S.1 (7, i, 0) 8 - 1 = _; rw [hcnt, hpred]) (by omega) (by decide) ?_
    refine gz_return (pc := 59) cx hr qd_N_endRelay_59 ?_
    refine ⟨rfl, ?_⟩
    show gX (gI _ _ _ (S.1 (7, i, 0) 8 - 1)) _ _ _ = _
    rw [hcnt, hpred]
    unfold sEnd
    rw [(h10 k (by omega)).1]
  · intro x hx ih hkx
    have hst := hst.shift10 (i := i) (k := k) (x := x)
    refine gz_iload_n (pc := 9) cx qd_N_endRelay_9 rfl rfl ?_
    refine gz_aload_n (pc := 10) cx qd_N_endRelay_10 rfl rfl ?_
    refine gz_getI (pc := 11) cx qf_N_53 qd_N_endRelay_11 (gm_N (by assumption)) rfl rfl ?_
    refine gz_iconst (v := 1) (pc := 14) cx qd_N_endRelay_14 (by decide) ?_
    refine gz_isub (pc := 15) cx qd_N_endRelay_15 ?_
    refine gz_icmp_ge (tgt := 39) (pc := 16) cx qd_N_endRelay_16 (by decide) (fun h16 => absurd (show S.1 (7, i, 0) 8 - 1 ≤ nI x from h16) (by rw [hcnt, hpred]; exact nI_ge hx (by omega))) (fun _ => ?_)
    refine gz_aload_n (pc := 19) cx qd_N_endRelay_19 rfl rfl ?_
    refine gz_getR (pc := 20) cx qf_N_13 qd_N_endRelay_20 (gm_N (by assumption)) rfl rfl (hst _ _ _ rfl) ?_
    refine gz_iload_n (pc := 23) cx qd_N_endRelay_23 rfl rfl ?_
    refine gz_aload_n (pc := 24) cx qd_N_endRelay_24 rfl rfl ?_
    refine gz_getR (pc := 25) cx qf_N_13 qd_N_endRelay_25 (gm_N (by assumption)) rfl rfl (hst _ _ _ rfl) ?_
    refine gz_iload_n (pc := 28) cx qd_N_endRelay_28 rfl rfl ?_
    refine gz_iconst (v := 1) (pc := 29) cx qd_N_endRelay_29 (by decide) ?_
    refine gz_iadd (pc := 30) cx qd_N_endRelay_30 ?_
    refine gz_aaload (pc := 31) cx qd_N_endRelay_31 (by first | exact gm_tb (by assumption) | exact gm_ns | exact gm_cf | exact gm_w (by assumption) | exact gm_nw (by assumption) | exact gm_rs (by assumption) | exact gm_M (by assumption) | exact gm_R (by assumption) (by assumption) | exact gm_za (by decide) (by decide)) rfl ⟨by decide, by decide, rfl⟩ (show _ = some (11, i, ρ (x + 1)) by rw [sShift_at, if_neg (by omega)]; exact (h10 (x + 1) (by omega)).1) (nI_succ x).symm (by omega) (by decide) ?_
    refine gz_aastore (pc := 32) cx qd_N_endRelay_32 (by first | exact gm_tb (by assumption) | exact gm_ns | exact gm_cf | exact gm_w (by assumption) | exact gm_nw (by assumption) | exact gm_rs (by assumption) | exact gm_M (by assumption) | exact gm_R (by assumption) (by assumption) | exact gm_za (by decide) (by decide)) (gm_R hi (h10 (x + 1) (by omega)).2) rfl rfl ⟨by decide, by decide, rfl⟩ rfl rfl (by omega) (by decide) ?_
    refine gz_iinc (pc := 33) cx qd_N_endRelay_33 rfl (g_inc x) ?_
    refine gz_goto (tgt := 9) (pc := 36) cx qd_N_endRelay_36 (by decide) ?_
    rw [← (h10 (x + 1) (by omega)).1, sShift_s hkx]
    exact ih (by omega)
theorem gc_N_takeAck {G : gG} {la : Launch} {M : mM} {p i0 a : Nat} {msg : List Int32} {S : gS} {i : Nat} (hi : i < G.1) (h : CR G M p i0 (some (a, msg)) S) (hlen : M.2.2.length < 60) : gM G la qy_N_takeAck qw_N_takeAck 3 0 0 (gTt G) (gTt G) [.inr (some (7, i, 0)), .inr (some (5, a, 0))] S (fun v S' => v = none ∧ CR G (mAck G.1 M i (msg.getD 3 0) (msg.getD 4 0) (msg.getD 5 0)) p i0 (some (a, msg)) S' ∧ gFr S S') := by
  refine gM_of (cc := qc_N_takeAck) (maxL := 3) (by decide) rfl (Nat.le_of_ble_eq_true rfl) ?_
  intro E cx hr hnm hcz hsz hEl
  subst hEl
  have hst := h.1.1
  have hid := (h.1.2.2.2.1 i hi).1
  have h8 := h.1.2.1
  obtain ⟨ha, hmsg⟩ := h.cur
  obtain ⟨c, hc8, hml, hm6, hmf, hmn⟩ := hmsg
  obtain ⟨ρ, a1, a2, a3, a4, a5⟩ := h.2.2.2.1 i hi
  have e11 : S.1 (7, i, 0) 11 = M.1 21 i 0 := h.2.2.1 i 11 hi (by decide) (by decide) (by decide)
  have e10 : S.1 (7, i, 0) 10 = M.1 20 i 0 := h.2.2.1 i 10 hi (by decide) (by decide) (by decide)
  have m3 := hmf 3 (by decide)
  have m4 := hmf 4 (by decide)
  have m5 := hmf 5 (by decide)
  refine gz_aload_n (pc := 0) cx qd_N_takeAck_0 rfl rfl ?_
  refine gz_getV (pc := 1) cx qf_N_144 qd_N_takeAck_1 (gm_M (by assumption)) rfl rfl m4 ?_
  refine gz_aload_n (pc := 4) cx qd_N_takeAck_4 rfl rfl ?_
  refine gz_getV (pc := 5) cx qf_N_17 qd_N_takeAck_5 (gm_N (by assumption)) rfl rfl hid ?_
  refine gz_icmp_ne (tgt := 25) (pc := 8) cx qd_N_takeAck_8 (by decide) (fun h8x0 => ?_) (fun h8x0 => ?_)
  · refine gz_iconst (v := 0) (pc := 25) cx qd_N_takeAck_25 (by decide) ?_
    refine gz_istore_n (pc := 26) cx qd_N_takeAck_26 rfl (Nat.le_of_ble_eq_true rfl) ?_
    have h8x : ¬ msg.getD 4 0 = nI i := h8x0
    suffices hh : ∀ k, k ≤ (M.2.1 i).length → (∀ j, j < k → ¬ (((M.2.1 i).getD j []).getD 0 0 = msg.getD 3 0 ∧ ((M.2.1 i).getD j []).getD 1 0 = msg.getD 4 0 ∧ ((M.2.1 i).getD j []).getD 2 0 = msg.getD 5 0)) → gZ G E 0 0 (gEnd G E 0 0 (gTt G) (fun v S' => v = none ∧ CR G (mAck G.1 M i (msg.getD 3 0) (msg.getD 4 0) (msg.getD 5 0)) p i0 (some (a, msg)) S' ∧ gFr S S')) (gTt G) 27 [some (.inr (some (7, i, 0))), some (.inr (some (5, a, 0))), some (.inl (nI k))] [] S by
      exact hh 0 (Nat.zero_le _) (fun j q => absurd q (by omega))
    refine g_upto ?_ ?_
    · intro hno
      refine gz_iload_n (pc := 27) cx qd_N_takeAck_27 rfl rfl ?_
      refine gz_aload_n (pc := 28) cx qd_N_takeAck_28 rfl rfl ?_
      refine gz_getV (pc := 29) cx qf_N_53 qd_N_takeAck_29 (gm_N (by assumption)) rfl rfl a2 ?_
      refine gz_icmp_ge (tgt := 81) (pc := 32) cx qd_N_takeAck_32 (by decide) (fun _ => ?_) (fun h32 => absurd (Int32.le_refl _) h32)
      refine gz_return (pc := 81) cx hr qd_N_takeAck_81 ?_
      have hf : mFind (M.2.1 i) (msg.getD 3 0) (msg.getD 4 0) (msg.getD 5 0) = none := by
        unfold mFind
        rw [List.findIdx?_eq_none_iff]
        intro x hx
        obtain ⟨j, hj, rfl⟩ := List.getElem_of_mem hx
        have := hno j hj
        rw [getD_at hj] at this
        simpa using this
      unfold mAck
      rw [if_neg h8x, hf]
      exact ⟨rfl, h, gFr.rf⟩
    · intro k hk ih hno
      have hk4 : k < 4 := by omega
      refine gz_iload_n (pc := 27) cx qd_N_takeAck_27 rfl rfl ?_
      refine gz_aload_n (pc := 28) cx qd_N_takeAck_28 rfl rfl ?_
      refine gz_getV (pc := 29) cx qf_N_53 qd_N_takeAck_29 (gm_N (by assumption)) rfl rfl a2 ?_
      refine gz_icmp_ge (tgt := 81) (pc := 32) cx qd_N_takeAck_32 (by decide) (fun h32 => absurd h32 (nI_ge hk (by omega))) (fun _ => ?_)
      refine gz_aload_n (pc := 35) cx qd_N_takeAck_35 rfl rfl ?_
      refine gz_getR (pc := 36) cx qf_N_13 qd_N_takeAck_36 (gm_N (by assumption)) rfl rfl (hst _ _ _ rfl) ?_
      refine gz_iload_n (pc := 39) cx qd_N_takeAck_39 rfl rfl ?_
      refine gz_aaload (pc := 40) cx qd_N_takeAck_40 (by first | exact gm_tb (by assumption) | exact gm_ns | exact gm_cf | exact gm_w (by assumption) | exact gm_nw (by assumption) | exact gm_rs (by assumption) | exact gm_M (by assumption) | exact gm_R (by assumption) (by assumption) | exact gm_za (by decide) (by decide)) rfl ⟨by decide, by decide, rfl⟩ (a3 k hk4).1 rfl (by assumption) (by decide) ?_
      refine gz_aload_n (pc := 41) cx qd_N_takeAck_41 rfl rfl ?_
      refine gz_callV (pc := 42) cx qv_N_190 qd_N_takeAck_42 (gc_R_isFor hi (a3 k hk4).2 ha) (by decide) rfl (gm_R hi (a3 k hk4).2) rfl rfl rfl rfl (Nat.le_of_ble_eq_true rfl) ⟨Nat.zero_le _, Nat.zero_le _⟩ ?_
      rintro _ S' ⟨rfl, hS'⟩
      subst hS'
      rw [m3, m4, m5, a5 k hk 0 (by decide), a5 k hk 1 (by decide), a5 k hk 2 (by decide)]
      refine gz_if_eq (tgt := 75) (pc := 45) cx qd_N_takeAck_45 (by decide) (fun h45 => ?_) (fun h45 => ?_)
      · refine gz_iinc (pc := 75) cx qd_N_takeAck_75 rfl (g_inc k) ?_
        refine gz_goto (tgt := 27) (pc := 78) cx qd_N_takeAck_78 (by decide) ?_
        refine ih (fun j hj => ?_)
        by_cases e : j = k
        · subst e; exact bI_f h45
        · exact hno j (by omega)
      · refine gz_aload_n (pc := 48) cx qd_N_takeAck_48 rfl rfl ?_
        refine gz_iload_n (pc := 49) cx qd_N_takeAck_49 rfl rfl ?_
        refine gz_callV (pc := 50) cx qv_N_193 qd_N_takeAck_50 (gc_N_endRelay hi hst a1 hk a2 a3) (by decide) rfl (gm_N (by assumption)) rfl rfl rfl rfl (Nat.le_of_ble_eq_true rfl) ⟨Nat.zero_le _, Nat.zero_le _⟩ ?_
        rintro _ _ ⟨rfl, rfl⟩
        obtain ⟨c1, f1⟩ := h.endRelay (k := k) hi hk
        obtain ⟨-, c9, -, -, -, hmf', -⟩ := c1.cur
        refine gz_aload_n (pc := 53) cx qd_N_takeAck_53 rfl rfl ?_
        refine gz_iconst (v := 2) (pc := 54) cx qd_N_takeAck_54 (by decide) ?_
        refine gz_aload_n (pc := 55) cx qd_N_takeAck_55 rfl rfl ?_
        refine gz_getV (pc := 56) cx qf_N_144 qd_N_takeAck_56 (gm_M (by assumption)) rfl rfl (hmf' 4 (by decide)) ?_
        refine gz_aload_n (pc := 59) cx qd_N_takeAck_59 rfl rfl ?_
        refine gz_getV (pc := 60) cx qf_N_141 qd_N_takeAck_60 (gm_M (by assumption)) rfl rfl (hmf' 3 (by decide)) ?_
        refine gz_aload_n (pc := 63) cx qd_N_takeAck_63 rfl rfl ?_
        refine gz_getV (pc := 64) cx qf_N_144 qd_N_takeAck_64 (gm_M (by assumption)) rfl rfl (hmf' 4 (by decide)) ?_
        refine gz_aload_n (pc := 67) cx qd_N_takeAck_67 rfl rfl ?_
        refine gz_getV (pc := 68) cx qf_N_147 qd_N_takeAck_68 (gm_M (by assumption)) rfl rfl (hmf' 5 (by decide)) ?_
        refine gz_callV (pc := 71) cx qv_N_89 qd_N_takeAck_71 (gc_send hi c1 (Or.inr hlen)) (by decide) rfl (gm_N (by assumption)) rfl rfl rfl rfl (Nat.le_of_ble_eq_true rfl) ⟨Nat.zero_le _, Nat.zero_le _⟩ ?_
        rintro _ S' ⟨rfl, c2, f2⟩
        refine gz_return (pc := 74) cx hr qd_N_takeAck_74 ?_
        have hf : mFind (M.2.1 i) (msg.getD 3 0) (msg.getD 4 0) (msg.getD 5 0) = some k := by
          unfold mFind
          rw [List.findIdx?_eq_some_iff_getElem]
          have hy := bI_t h45
          rw [getD_at hk] at hy
          refine ⟨hk, by simpa using hy, fun j hj => ?_⟩
          have := hno j hj
          rw [getD_at (by omega)] at this
          simpa using this
        unfold mAck
        rw [if_neg h8x, hf]
        exact ⟨rfl, c2, f1.tr f2⟩
  · refine gz_aload_n (pc := 11) cx qd_N_takeAck_11 rfl rfl ?_
    refine gz_aload_n (pc := 12) cx qd_N_takeAck_12 rfl rfl ?_
    refine gz_callV (pc := 13) cx qv_N_156 qd_N_takeAck_13 (gc_N_isOfProbe hi ha) (by decide) rfl (gm_N (by assumption)) rfl rfl rfl rfl (Nat.le_of_ble_eq_true rfl) ⟨Nat.zero_le _, Nat.zero_le _⟩ ?_
    rintro _ S' ⟨rfl, hS'⟩
    subst hS'
    refine gz_if_eq (tgt := 24) (pc := 16) cx qd_N_takeAck_16 (by decide) (fun h16 => ?_) (fun h16 => ?_)
    · refine gz_return (pc := 24) cx hr qd_N_takeAck_24 ?_
      have hp := bI_f h16
      rw [e11, m3, e10] at hp
      unfold mAck
      rw [if_pos h8x0, if_neg hp]
      exact ⟨rfl, h, gFr.rf⟩
    · refine gz_aload_n (pc := 19) cx qd_N_takeAck_19 rfl rfl ?_
      refine gz_iconst (v := 1) (pc := 20) cx qd_N_takeAck_20 (by decide) ?_
      refine gz_putI (pc := 21) cx qp_N_71 qd_N_takeAck_21 (gm_N (by assumption)) rfl rfl ⟨by decide, by decide⟩ (fun h => nomatch h) ?_
      refine gz_return (pc := 24) cx hr qd_N_takeAck_24 ?_
      have hp := bI_t h16
      rw [e11, m3, e10] at hp
      unfold mAck
      rw [if_pos h8x0, if_pos hp]
      obtain ⟨c1, f1⟩ := h.N (i := i) (f := 14) (by decide) (by decide) (by decide) 1
      exact ⟨rfl, c1, f1⟩
theorem gc_N_takeAsk {G : gG} {la : Launch} {M : mM} {p i0 a : Nat} {msg : List Int32} {S : gS} {i : Nat} (hi : i < G.1) (h : CR G M p i0 (some (a, msg)) S) (hlen : M.2.2.length < 60) : gM G la qy_N_takeAsk qw_N_takeAsk 3 0 0 (gTt G) (gTt G) [.inr (some (7, i, 0)), .inr (some (5, a, 0))] S (fun v S' => v = none ∧ CR G (mAsk G.1 M i (msg.getD 3 0) (msg.getD 4 0) (msg.getD 5 0)) p i0 (some (a, msg)) S' ∧ gFr S S') := by
  refine gM_of (cc := qc_N_takeAsk) (maxL := 3) (by decide) rfl (Nat.le_of_ble_eq_true rfl) ?_
  intro E cx hr hnm hcz hsz hEl
  subst hEl
  have hst := h.1.1
  have hid := (h.1.2.2.2.1 i hi).1
  have h8 := h.1.2.1
  obtain ⟨ha, hmsg⟩ := h.cur
  obtain ⟨c, hc8, hml, hm6, hmf, hmn⟩ := hmsg
  obtain ⟨ρ, a1, a2, a3, a4, a5⟩ := h.2.2.2.1 i hi
  have e11 : S.1 (7, i, 0) 11 = M.1 21 i 0 := h.2.2.1 i 11 hi (by decide) (by decide) (by decide)
  have e10 : S.1 (7, i, 0) 10 = M.1 20 i 0 := h.2.2.1 i 10 hi (by decide) (by decide) (by decide)
  have m3 := hmf 3 (by decide)
  have m4 := hmf 4 (by decide)
  have m5 := hmf 5 (by decide)
  refine gz_aload_n (pc := 0) cx qd_N_takeAsk_0 rfl rfl ?_
  refine gz_getV (pc := 1) cx qf_N_53 qd_N_takeAsk_1 (gm_N (by assumption)) rfl rfl a2 ?_
  refine gz_iconst (v := 4) (pc := 4) cx qd_N_takeAsk_4 (by decide) ?_
  refine gz_icmp_lt (tgt := 9) (pc := 5) cx qd_N_takeAsk_5 (by decide) (fun h5 => ?_) (fun h5 => ?_)
  · have h4 : (M.2.1 i).length < 4 := (nI_ltI (by omega) (by decide)).mp h5
    refine gz_aload_n (pc := 9) cx qd_N_takeAsk_9 rfl rfl ?_
    refine gz_getR (pc := 10) cx qf_N_13 qd_N_takeAsk_10 (gm_N (by assumption)) rfl rfl (hst _ _ _ rfl) ?_
    refine gz_aload_n (pc := 13) cx qd_N_takeAsk_13 rfl rfl ?_
    refine gz_getV (pc := 14) cx qf_N_53 qd_N_takeAsk_14 (gm_N (by assumption)) rfl rfl a2 ?_
    refine gz_aaload (pc := 17) cx qd_N_takeAsk_17 (by first | exact gm_tb (by assumption) | exact gm_ns | exact gm_cf | exact gm_w (by assumption) | exact gm_nw (by assumption) | exact gm_rs (by assumption) | exact gm_M (by assumption) | exact gm_R (by assumption) (by assumption) | exact gm_za (by decide) (by decide)) rfl ⟨by decide, by decide, rfl⟩ (a3 _ h4).1 rfl h4 (by decide) ?_
    refine gz_astore_n (pc := 18) cx qd_N_takeAsk_18 rfl (Nat.le_of_ble_eq_true rfl) ?_
    refine gz_aload_n (pc := 19) cx qd_N_takeAsk_19 rfl rfl ?_
    refine gz_dup (pc := 20) cx qd_N_takeAsk_20 ?_
    refine gz_getV (pc := 21) cx qf_N_53 qd_N_takeAsk_21 (gm_N (by assumption)) rfl rfl a2 ?_
    refine gz_iconst (v := 1) (pc := 24) cx qd_N_takeAsk_24 (by decide) ?_
    refine gz_iadd (pc := 25) cx qd_N_takeAsk_25 ?_
    refine gz_putI (pc := 26) cx qp_N_53 qd_N_takeAsk_26 (gm_N (by assumption)) rfl rfl ⟨rfl, rfl⟩ (fun h => nomatch h) ?_
    refine gz_aload_n (pc := 29) cx qd_N_takeAsk_29 rfl rfl ?_
    refine gz_aload_n (pc := 30) cx qd_N_takeAsk_30 rfl rfl ?_
    refine gz_getV (pc := 31) cx qf_N_141 qd_N_takeAsk_31 (gm_M (by assumption)) rfl rfl m3 ?_
    refine gz_putI (pc := 34) cx qp_N_196 qd_N_takeAsk_34 (gm_R hi (a3 _ h4).2) rfl rfl ⟨rfl, rfl⟩ (fun h => nomatch h) ?_
    refine gz_aload_n (pc := 37) cx qd_N_takeAsk_37 rfl rfl ?_
    refine gz_aload_n (pc := 38) cx qd_N_takeAsk_38 rfl rfl ?_
    refine gz_getV (pc := 39) cx qf_N_144 qd_N_takeAsk_39 (gm_M (by assumption)) rfl rfl m4 ?_
    refine gz_putI (pc := 42) cx qp_N_197 qd_N_takeAsk_42 (gm_R hi (a3 _ h4).2) rfl rfl ⟨rfl, rfl⟩ (fun h => nomatch h) ?_
    refine gz_aload_n (pc := 45) cx qd_N_takeAsk_45 rfl rfl ?_
    refine gz_aload_n (pc := 46) cx qd_N_takeAsk_46 rfl rfl ?_
    refine gz_getV (pc := 47) cx qf_N_147 qd_N_takeAsk_47 (gm_M (by assumption)) rfl rfl m5 ?_
    refine gz_putI (pc := 50) cx qp_N_198 qd_N_takeAsk_50 (gm_R hi (a3 _ h4).2) rfl rfl ⟨rfl, rfl⟩ (fun h => nomatch h) ?_
    refine gz_aload_n (pc := 53) cx qd_N_takeAsk_53 rfl rfl ?_
    refine gz_iconst (v := 0) (pc := 54) cx qd_N_takeAsk_54 (by decide) ?_
    refine gz_putI (pc := 55) cx qp_N_199 qd_N_takeAsk_55 (gm_R hi (a3 _ h4).2) rfl rfl ⟨rfl, rfl⟩ (fun h => nomatch h) ?_
    obtain ⟨c1, f1⟩ := h.addRelay (no := msg.getD 3 0) (o := msg.getD 4 0) (g := msg.getD 5 0) hi h4 (a3 _ h4).1
    rw [nI_succ] at c1 f1
    obtain ⟨-, c9, -, -, -, hmf', -⟩ := c1.cur
    refine gz_aload_n (pc := 58) cx qd_N_takeAsk_58 rfl rfl ?_
    refine gz_iconst (v := 1) (pc := 59) cx qd_N_takeAsk_59 (by decide) ?_
    refine gz_aload_n (pc := 60) cx qd_N_takeAsk_60 rfl rfl ?_
    refine gz_getV (pc := 61) cx qf_N_147 qd_N_takeAsk_61 (gm_M (by assumption)) rfl rfl (hmf' 5 (by decide)) ?_
    refine gz_aload_n (pc := 64) cx qd_N_takeAsk_64 rfl rfl ?_
    refine gz_getV (pc := 65) cx qf_N_141 qd_N_takeAsk_65 (gm_M (by assumption)) rfl rfl (hmf' 3 (by decide)) ?_
    refine gz_aload_n (pc := 68) cx qd_N_takeAsk_68 rfl rfl ?_
    refine gz_getV (pc := 69) cx qf_N_144 qd_N_takeAsk_69 (gm_M (by assumption)) rfl rfl (hmf' 4 (by decide)) ?_
    refine gz_aload_n (pc := 72) cx qd_N_takeAsk_72 rfl rfl ?_
    refine gz_getV (pc := 73) cx qf_N_147 qd_N_takeAsk_73 (gm_M (by assumption)) rfl rfl (hmf' 5 (by decide)) ?_
    refine gz_callV (pc := 76) cx qv_N_89 qd_N_takeAsk_76 (gc_send hi c1 (Or.inr hlen)) (by decide) rfl (gm_N (by assumption)) rfl rfl rfl rfl (Nat.le_of_ble_eq_true rfl) ⟨Nat.zero_le _, Nat.zero_le _⟩ ?_
    rintro _ S' ⟨rfl, c2, f2⟩
    refine gz_return (pc := 79) cx hr qd_N_takeAsk_79 ?_
    unfold mAsk
    rw [if_neg (by omega)]
    exact ⟨rfl, c2, f1.tr f2⟩
  · refine gz_return (pc := 8) cx hr qd_N_takeAsk_8 ?_
    have h4 : ¬ (M.2.1 i).length < 4 := fun q => h5 (nI_lt q (by decide))
    unfold mAsk
    rw [if_pos (by omega)]
    exact ⟨rfl, h, gFr.rf⟩
end
section
theorem mLearn_2 {M : mM} {i m : Nat} {s inc fr w : Int32} : (mLearn M i m s inc fr w).2 = M.2 := by
  unfold mLearn
  split
  · split
    · rfl
    · show (if _ then _ else _ : mM).2 = _
      split <;> rfl
  · split
    · split <;> rfl
    · split <;> rfl
theorem mLearns_2 {M : mM} {i : Nat} {msg : List Int32} {w : Int32} : ∀ {t : Nat}, (mLearns M i msg w t).2 = M.2
  | 0 => rfl
  | t + 1 => by
    show (mLearn (mLearns M i msg w t) _ _ _ _ _ _).2 = _
    rw [mLearn_2, mLearns_2]
theorem gc_N_receive {G : gG} {la : Launch} {M : mM} {p i0 a : Nat} {msg : List Int32} {S : gS} {i : Nat} {w : Int32} (hi : i < G.1) (h : CR G M p i0 (some (a, msg)) S) (hlen : M.2.2.length < 60) (hwf : mWf G.1 msg) : gM G la qy_N_receive qw_N_receive 4 0 0 (gTt G) (gTt G) [.inr (some (7, i, 0)), .inr (some (5, a, 0)), .inl w] S (fun v S' => v = none ∧ CR G (mRecv G.1 M i msg w) p i0 (some (a, msg)) S' ∧ gFr S S') := by
  refine gM_of (cc := qc_N_receive) (maxL := 5) (by decide) rfl (Nat.le_of_ble_eq_true rfl) ?_
  intro E cx hr hnm hcz hsz hEl
  subst hEl
  obtain ⟨c, hc8, hml, hm6, hn1, hn2, hn4, hn5, hnn⟩ := hwf
  have ha := h.cur.1
  have ec : (msg.getD 6 0).toNatClampNeg = c := by rw [hm6]; exact nI_clamp (by omega)
  suffices hh : ∀ t, t ≤ c → ∀ St, CR G (mLearns M i msg w t) p i0 (some (a, msg)) St → gFr S St → gZ G E 0 0 (gEnd G E 0 0 (gTt G) (fun v S' => v = none ∧ CR G (mRecv G.1 M i msg w) p i0 (some (a, msg)) S' ∧ gFr S S')) (gTt G) 2 [some (.inr (some (7, i, 0))), some (.inr (some (5, a, 0))), some (.inl w), some (.inl (nI t)), none] [] St by
    refine gz_iconst (v := 0) (pc := 0) cx qd_N_receive_0 (by decide) ?_
    refine gz_istore_n (pc := 1) cx qd_N_receive_1 rfl (Nat.le_of_ble_eq_true rfl) ?_
    exact hh 0 (Nat.zero_le _) S h gFr.rf
  refine g_upto ?_ ?_
  · intro St hc hf
    obtain ⟨-, cc, -, -, -, hmf, -⟩ := hc.cur
    have hst := hc.1.1
    have hl60 : (mLearns M i msg w c).2.2.length < 60 := by rw [mLearns_2]; exact hlen
    have e11 : St.1 (7, i, 0) 11 = (mLearns M i msg w c).1 21 i 0 := hc.2.2.1 i 11 hi (by decide) (by decide) (by decide)
    have e10 : St.1 (7, i, 0) 10 = (mLearns M i msg w c).1 20 i 0 := hc.2.2.1 i 10 hi (by decide) (by decide) (by decide)
    have e16 : St.1 (7, i, 0) 16 = (mLearns M i msg w c).1 26 i 0 := hc.2.2.1 i 16 hi (by decide) (by decide) (by decide)
    refine gz_iload_n (pc := 2) cx qd_N_receive_2 rfl rfl ?_
    refine gz_aload_n (pc := 3) cx qd_N_receive_3 rfl rfl ?_
    refine gz_getV (pc := 4) cx qf_N_125 qd_N_receive_4 (gm_M (by assumption)) rfl rfl ((hmf 6 (by decide)).trans hm6) ?_
    refine gz_icmp_ge (tgt := 55) (pc := 7) cx qd_N_receive_7 (by decide) (fun _ => ?_) (fun h7 => absurd (Int32.le_refl _) h7)
    refine gz_aload_n (pc := 55) cx qd_N_receive_55 rfl rfl ?_
    refine gz_getV (pc := 56) cx qf_N_138 qd_N_receive_56 (gm_M (by assumption)) rfl rfl (hmf 0 (by decide)) ?_
    refine gz_switch1 (pc := 59) cx 6 (fun i => [96, 120, 128, 136, 173, 157].getD i 0) 173 qd_N_receive_59 (by decide) (by intro i hi; match i, hi with
      | 0, _ => exact ⟨_, rfl, by decide⟩
      | 1, _ => exact ⟨_, rfl, by decide⟩
      | 2, _ => exact ⟨_, rfl, by decide⟩
      | 3, _ => exact ⟨_, rfl, by decide⟩
      | 4, _ => exact ⟨_, rfl, by decide⟩
      | 5, _ => exact ⟨_, rfl, by decide⟩
      | i + 6, hi => exact absurd hi (by omega)) (by decide) (fun i9 hi9 hx9 => ?_) (fun hx9 => ?_)
    · match i9, hi9, hx9 with
      | 0, _, hx9 =>
        refine gz_aload_n (pc := 96) cx qd_N_receive_96 rfl rfl ?_
        refine gz_iconst (v := 2) (pc := 97) cx qd_N_receive_97 (by decide) ?_
        refine gz_aload_n (pc := 98) cx qd_N_receive_98 rfl rfl ?_
        refine gz_getV (pc := 99) cx qf_N_132 qd_N_receive_99 (gm_M (by assumption)) rfl rfl (hmf 1 (by decide)) ?_
        refine gz_aload_n (pc := 102) cx qd_N_receive_102 rfl rfl ?_
        refine gz_getV (pc := 103) cx qf_N_141 qd_N_receive_103 (gm_M (by assumption)) rfl rfl (hmf 3 (by decide)) ?_
        refine gz_aload_n (pc := 106) cx qd_N_receive_106 rfl rfl ?_
        refine gz_getV (pc := 107) cx qf_N_144 qd_N_receive_107 (gm_M (by assumption)) rfl rfl (hmf 4 (by decide)) ?_
        refine gz_aload_n (pc := 110) cx qd_N_receive_110 rfl rfl ?_
        refine gz_getV (pc := 111) cx qf_N_147 qd_N_receive_111 (gm_M (by assumption)) rfl rfl (hmf 5 (by decide)) ?_
        refine gz_callV (pc := 114) cx qv_N_89 qd_N_receive_114 (gc_send hi hc (Or.inr hl60)) (by decide) rfl (gm_N (by assumption)) rfl rfl rfl rfl (Nat.le_of_ble_eq_true rfl) ⟨Nat.zero_le _, Nat.zero_le _⟩ ?_
        rintro _ S' ⟨rfl, c2, f2⟩
        refine gz_goto (tgt := 173) (pc := 117) cx qd_N_receive_117 (by decide) ?_
        refine gz_return (pc := 173) cx hr qd_N_receive_173 ?_
        have hk : msg.getD 0 0 = 1 := hx9
        have et : mRecv G.1 M i msg w = mTake G.1 (mLearns M i msg w c) i msg := by unfold mRecv; rw [ec]
        rw [et]
        unfold mTake
        rw [if_pos hk]
        exact ⟨rfl, c2, hf.tr f2⟩
      | 1, _, hx9 =>
        refine gz_aload_n (pc := 120) cx qd_N_receive_120 rfl rfl ?_
        refine gz_aload_n (pc := 121) cx qd_N_receive_121 rfl rfl ?_
        refine gz_callV (pc := 122) cx qv_N_150 qd_N_receive_122 (gc_N_takeAck hi hc hl60) (by decide) rfl (gm_N (by assumption)) rfl rfl rfl rfl (Nat.le_of_ble_eq_true rfl) ⟨Nat.zero_le _, Nat.zero_le _⟩ ?_
        rintro _ S' ⟨rfl, c2, f2⟩
        refine gz_goto (tgt := 173) (pc := 125) cx qd_N_receive_125 (by decide) ?_
        refine gz_return (pc := 173) cx hr qd_N_receive_173 ?_
        have hk : msg.getD 0 0 = 2 := hx9
        have et : mRecv G.1 M i msg w = mTake G.1 (mLearns M i msg w c) i msg := by unfold mRecv; rw [ec]
        rw [et]
        unfold mTake
        rw [if_neg (fun q => absurd (hk.symm.trans q) (by decide))]
        rw [if_pos hk]
        exact ⟨rfl, c2, hf.tr f2⟩
      | 2, _, hx9 =>
        refine gz_aload_n (pc := 128) cx qd_N_receive_128 rfl rfl ?_
        refine gz_aload_n (pc := 129) cx qd_N_receive_129 rfl rfl ?_
        refine gz_callV (pc := 130) cx qv_N_153 qd_N_receive_130 (gc_N_takeAsk hi hc hl60) (by decide) rfl (gm_N (by assumption)) rfl rfl rfl rfl (Nat.le_of_ble_eq_true rfl) ⟨Nat.zero_le _, Nat.zero_le _⟩ ?_
        rintro _ S' ⟨rfl, c2, f2⟩
        refine gz_goto (tgt := 173) (pc := 133) cx qd_N_receive_133 (by decide) ?_
        refine gz_return (pc := 173) cx hr qd_N_receive_173 ?_
        have hk : msg.getD 0 0 = 3 := hx9
        have et : mRecv G.1 M i msg w = mTake G.1 (mLearns M i msg w c) i msg := by unfold mRecv; rw [ec]
        rw [et]
        unfold mTake
        rw [if_neg (fun q => absurd (hk.symm.trans q) (by decide))]
        rw [if_neg (fun q => absurd (hk.symm.trans q) (by decide))]
        rw [if_pos hk]
        exact ⟨rfl, c2, hf.tr f2⟩
      | 3, _, hx9 =>
        refine gz_aload_n (pc := 136) cx qd_N_receive_136 rfl rfl ?_
        refine gz_aload_n (pc := 137) cx qd_N_receive_137 rfl rfl ?_
        refine gz_callV (pc := 138) cx qv_N_156 qd_N_receive_138 (gc_N_isOfProbe hi ha) (by decide) rfl (gm_N (by assumption)) rfl rfl rfl rfl (Nat.le_of_ble_eq_true rfl) ⟨Nat.zero_le _, Nat.zero_le _⟩ ?_
        rintro _ S' ⟨rfl, hS'⟩
        subst hS'
        rw [e11, e10, hmf 3 (by decide)]
        refine gz_if_eq (tgt := 173) (pc := 141) cx qd_N_receive_141 (by decide) (fun h141 => ?_) (fun h141 => ?_)
        · refine gz_return (pc := 173) cx hr qd_N_receive_173 ?_
          have hk : msg.getD 0 0 = 4 := hx9
          have et : mRecv G.1 M i msg w = mTake G.1 (mLearns M i msg w c) i msg := by unfold mRecv; rw [ec]
          rw [et]
          unfold mTake
          rw [if_neg (fun q => absurd (hk.symm.trans q) (by decide))]
          rw [if_neg (fun q => absurd (hk.symm.trans q) (by decide))]
          rw [if_neg (fun q => absurd (hk.symm.trans q) (by decide))]
          rw [if_pos hk]
          rw [if_neg (bI_f h141)]
          exact ⟨rfl, hc, hf⟩
        · refine gz_aload_n (pc := 144) cx qd_N_receive_144 rfl rfl ?_
          refine gz_dup (pc := 145) cx qd_N_receive_145 ?_
          refine gz_getV (pc := 146) cx qf_N_77 qd_N_receive_146 (gm_N (by assumption)) rfl rfl e16 ?_
          refine gz_iconst (v := 1) (pc := 149) cx qd_N_receive_149 (by decide) ?_
          refine gz_iadd (pc := 150) cx qd_N_receive_150 ?_
          refine gz_putI (pc := 151) cx qp_N_77 qd_N_receive_151 (gm_N (by assumption)) rfl rfl ⟨rfl, rfl⟩ (fun h => nomatch h) ?_
          refine gz_goto (tgt := 173) (pc := 154) cx qd_N_receive_154 (by decide) ?_
          refine gz_return (pc := 173) cx hr qd_N_receive_173 ?_
          have hk : msg.getD 0 0 = 4 := hx9
          have et : mRecv G.1 M i msg w = mTake G.1 (mLearns M i msg w c) i msg := by unfold mRecv; rw [ec]
          rw [et]
          unfold mTake
          rw [if_neg (fun q => absurd (hk.symm.trans q) (by decide))]
          rw [if_neg (fun q => absurd (hk.symm.trans q) (by decide))]
          rw [if_neg (fun q => absurd (hk.symm.trans q) (by decide))]
          rw [if_pos hk]
          rw [if_pos (bI_t h141)]
          obtain ⟨c1, f1⟩ := hc.N (i := i) (f := 16) (by decide) (by decide) (by decide) ((mLearns M i msg w c).1 26 i 0 + 1)
          exact ⟨rfl, c1, hf.tr f1⟩
      | 4, _, hx9 =>
        refine gz_return (pc := 173) cx hr qd_N_receive_173 ?_
        have hk : msg.getD 0 0 = 5 := hx9
        have et : mRecv G.1 M i msg w = mTake G.1 (mLearns M i msg w c) i msg := by unfold mRecv; rw [ec]
        rw [et]
        unfold mTake
        rw [if_neg (fun q => absurd (hk.symm.trans q) (by decide))]
        rw [if_neg (fun q => absurd (hk.symm.trans q) (by decide))]
        rw [if_neg (fun q => absurd (hk.symm.trans q) (by decide))]
        rw [if_neg (fun q => absurd (hk.symm.trans q) (by decide))]
        rw [if_neg (fun q => absurd (hk.symm.trans q) (by decide))]
        exact ⟨rfl, hc, hf⟩
      | 5, _, hx9 =>
        refine gz_aload_n (pc := 157) cx qd_N_receive_157 rfl rfl ?_
        refine gz_bipush (v := 7) (pc := 158) cx qd_N_receive_158 (by decide) ?_
        refine gz_aload_n (pc := 160) cx qd_N_receive_160 rfl rfl ?_
        refine gz_getV (pc := 161) cx qf_N_132 qd_N_receive_161 (gm_M (by assumption)) rfl rfl (hmf 1 (by decide)) ?_
        refine gz_iconst (v := 0) (pc := 164) cx qd_N_receive_164 (by decide) ?_
        refine gz_iconst (v := 0) (pc := 165) cx qd_N_receive_165 (by decide) ?_
        refine gz_iconst (v := 0) (pc := 166) cx qd_N_receive_166 (by decide) ?_
        refine gz_callV (pc := 167) cx qv_N_89 qd_N_receive_167 (gc_send hi hc (Or.inr hl60)) (by decide) rfl (gm_N (by assumption)) rfl rfl rfl rfl (Nat.le_of_ble_eq_true rfl) ⟨Nat.zero_le _, Nat.zero_le _⟩ ?_
        rintro _ S' ⟨rfl, c2, f2⟩
        refine gz_goto (tgt := 173) (pc := 170) cx qd_N_receive_170 (by decide) ?_
        refine gz_return (pc := 173) cx hr qd_N_receive_173 ?_
        have hk : msg.getD 0 0 = 6 := hx9
        have et : mRecv G.1 M i msg w = mTake G.1 (mLearns M i msg w c) i msg := by unfold mRecv; rw [ec]
        rw [et]
        unfold mTake
        rw [if_neg (fun q => absurd (hk.symm.trans q) (by decide))]
        rw [if_neg (fun q => absurd (hk.symm.trans q) (by decide))]
        rw [if_neg (fun q => absurd (hk.symm.trans q) (by decide))]
        rw [if_neg (fun q => absurd (hk.symm.trans q) (by decide))]
        rw [if_pos hk]
        exact ⟨rfl, c2, hf.tr f2⟩
      | i9 + 6, hi9, _ => exact absurd hi9 (by omega)
    · refine gz_return (pc := 173) cx hr qd_N_receive_173 ?_
      have et : mRecv G.1 M i msg w = mTake G.1 (mLearns M i msg w c) i msg := by unfold mRecv; rw [ec]
      rw [et]
      unfold mTake
      rw [if_neg (show ¬ msg.getD 0 0 = 1 from hx9 0 (by decide))]
      rw [if_neg (show ¬ msg.getD 0 0 = 2 from hx9 1 (by decide))]
      rw [if_neg (show ¬ msg.getD 0 0 = 3 from hx9 2 (by decide))]
      rw [if_neg (show ¬ msg.getD 0 0 = 4 from hx9 3 (by decide))]
      rw [if_neg (show ¬ msg.getD 0 0 = 6 from hx9 5 (by decide))]
      exact ⟨rfl, hc, hf⟩
  · intro t ht ih St hc hf
    obtain ⟨-, cc, hcc8, hcl, hc6, hmf, hmn⟩ := hc.cur
    have ecc : cc = c := by omega
    subst ecc
    have hst := hc.1.1
    obtain ⟨m, hm, hmm⟩ := hnn t ht
    have e3 : (3 : Int32) * nI t = nI (3 * t) := pk_mul 3 t
    have e4 : (3 : Int32) * nI t + 1 = nI (3 * t + 1) := by rw [e3]; exact (nI_succ _).symm
    have e5 : (3 : Int32) * nI t + 2 = nI (3 * t + 2) := by rw [e3]; exact nI_add (3 * t) 2
    refine gz_iload_n (pc := 2) cx qd_N_receive_2 rfl rfl ?_
    refine gz_aload_n (pc := 3) cx qd_N_receive_3 rfl rfl ?_
    refine gz_getV (pc := 4) cx qf_N_125 qd_N_receive_4 (gm_M (by assumption)) rfl rfl ((hmf 6 (by decide)).trans hm6) ?_
    refine gz_icmp_ge (tgt := 55) (pc := 7) cx qd_N_receive_7 (by decide) (fun h7 => absurd h7 (nI_ge ht (by omega))) (fun _ => ?_)
    refine gz_iconst (v := 3) (pc := 10) cx qd_N_receive_10 (by decide) ?_
    refine gz_iload_n (pc := 11) cx qd_N_receive_11 rfl rfl ?_
    refine gz_imul (pc := 12) cx qd_N_receive_12 ?_
    refine gz_istore (pc := 13) cx qd_N_receive_13 (Nat.le_of_ble_eq_true rfl) ?_
    refine gz_aload_n (pc := 15) cx qd_N_receive_15 rfl rfl ?_
    refine gz_aload_n (pc := 16) cx qd_N_receive_16 rfl rfl ?_
    refine gz_getR (pc := 17) cx qf_N_128 qd_N_receive_17 (gm_M (by assumption)) rfl rfl (hst _ _ _ rfl) ?_
    refine gz_iload (pc := 20) cx qd_N_receive_20 rfl ?_
    refine gz_iaload (pc := 22) cx qd_N_receive_22 (by first | exact gm_tb (by assumption) | exact gm_ns | exact gm_cf | exact gm_w (by assumption) | exact gm_nw (by assumption) | exact gm_rs (by assumption) | exact gm_M (by assumption) | exact gm_R (by assumption) (by assumption) | exact gm_za (by decide) (by decide)) rfl e3 (by omega) (by decide) ?_
    refine gz_aload_n (pc := 23) cx qd_N_receive_23 rfl rfl ?_
    refine gz_getR (pc := 24) cx qf_N_128 qd_N_receive_24 (gm_M (by assumption)) rfl rfl (hst _ _ _ rfl) ?_
    refine gz_iload (pc := 27) cx qd_N_receive_27 rfl ?_
    refine gz_iconst (v := 1) (pc := 29) cx qd_N_receive_29 (by decide) ?_
    refine gz_iadd (pc := 30) cx qd_N_receive_30 ?_
    refine gz_iaload (pc := 31) cx qd_N_receive_31 (by first | exact gm_tb (by assumption) | exact gm_ns | exact gm_cf | exact gm_w (by assumption) | exact gm_nw (by assumption) | exact gm_rs (by assumption) | exact gm_M (by assumption) | exact gm_R (by assumption) (by assumption) | exact gm_za (by decide) (by decide)) rfl e4 (by omega) (by decide) ?_
    refine gz_aload_n (pc := 32) cx qd_N_receive_32 rfl rfl ?_
    refine gz_getR (pc := 33) cx qf_N_128 qd_N_receive_33 (gm_M (by assumption)) rfl rfl (hst _ _ _ rfl) ?_
    refine gz_iload (pc := 36) cx qd_N_receive_36 rfl ?_
    refine gz_iconst (v := 2) (pc := 38) cx qd_N_receive_38 (by decide) ?_
    refine gz_iadd (pc := 39) cx qd_N_receive_39 ?_
    refine gz_iaload (pc := 40) cx qd_N_receive_40 (by first | exact gm_tb (by assumption) | exact gm_ns | exact gm_cf | exact gm_w (by assumption) | exact gm_nw (by assumption) | exact gm_rs (by assumption) | exact gm_M (by assumption) | exact gm_R (by assumption) (by assumption) | exact gm_za (by decide) (by decide)) rfl e5 (by omega) (by decide) ?_
    refine gz_aload_n (pc := 41) cx qd_N_receive_41 rfl rfl ?_
    refine gz_getV (pc := 42) cx qf_N_132 qd_N_receive_42 (gm_M (by assumption)) rfl rfl (hmf 1 (by decide)) ?_
    refine gz_iload_n (pc := 45) cx qd_N_receive_45 rfl rfl ?_
    rw [hmn (3 * t) (by omega), hmn (3 * t + 1) (by omega), hmn (3 * t + 2) (by omega), hmm]
    refine gz_callV (pc := 46) cx qv_N_135 qd_N_receive_46 (gc_N_learn hi hm hc) (by decide) rfl (gm_N (by assumption)) rfl rfl rfl rfl (Nat.le_of_ble_eq_true rfl) ⟨Nat.zero_le _, Nat.zero_le _⟩ ?_
    rintro _ S' ⟨rfl, c2, f2⟩
    refine gz_iinc (pc := 49) cx qd_N_receive_49 rfl (g_inc t) ?_
    refine gz_goto (tgt := 2) (pc := 52) cx qd_N_receive_52 (by decide) ?_
    refine gz_weak (lv' := [some (.inr (some (7, i, 0))), some (.inr (some (5, a, 0))), some (.inl w), some (.inl (nI (t + 1))), none]) ⟨rfl, rfl, rfl, rfl, trivial⟩ ?_
    refine ih S' ?_ (hf.tr f2)
    have em : mLearns M i msg w (t + 1) = mLearn (mLearns M i msg w t) i m (msg.getD (7 + (3 * t + 1)) 0) (msg.getD (7 + (3 * t + 2)) 0) (msg.getD 1 0) w := by
      show mLearn (mLearns M i msg w t) i (msg.getD (7 + 3 * t) 0).toNatClampNeg _ _ _ _ = _
      rw [hmm, nI_clamp (by have := hc.1.2.1; omega)]
    rw [em]
    exact c2
end
section
/-! the timer's pure picture -/
theorem mSend_1 {n : Nat} {M : mM} {kind : Int32} {i : Nat} {to no o g : Int32} {f i' j : Nat} (h : f ≠ 4) : (mSend n M kind i to no o g).1 f i' j = M.1 f i' j := by
  unfold mSend mPush
  split
  · split <;> rfl
  · split <;> exact if_neg (fun q => h q.1)
theorem mSend_r {n : Nat} {M : mM} {kind : Int32} {i : Nat} {to no o g : Int32} : (mSend n M kind i to no o g).2.1 = M.2.1 := by
  unfold mSend mPush
  split <;> split <;> rfl
def mNextF (n b : Nat) (ok : Nat → Bool) : Nat → Nat → Option Nat
  | 0, _ => none
  | rem + 1, k => if ok ((b + k) % n) then some ((b + k) % n) else mNextF n b ok rem (k + 1)
def mNext (n b : Nat) (ok : Nat → Bool) : Option Nat := mNextF n b ok n 1
def mOkS (M : mM) (i : Nat) (w : Int32) (m : Nat) : Bool := decide (m ≠ i ∧ M.1 0 i m ≠ 0 ∧ M.1 0 i m ≤ w)
theorem mNextF_lt {n b : Nat} {ok : Nat → Bool} (hn : 0 < n) : ∀ {rem k m : Nat}, mNextF n b ok rem k = some m → m < n ∧ ok m = true
  | 0, k, m, h => by cases h
  | rem + 1, k, m, h => by
    rw [mNextF] at h
    by_cases e : ok ((b + k) % n) = true
    · rw [if_pos e] at h
      cases h
      exact ⟨Nat.mod_lt _ hn, e⟩
    · rw [if_neg e] at h
      exact mNextF_lt hn h
def mConf (x : Int32) : Int32 := if bitC x < 3 then bitC x else 3
def mBury1 (M : mM) (i k : Nat) (w : Int32) : mM := if k ≠ i ∧ M.1 0 i k = 2 ∧ 24 - 6 * mConf (M.1 3 i k) ≤ w - M.1 2 i k then mBecome M i k 3 (M.1 1 i k) w else M
def mBury (M : mM) (i : Nat) (w : Int32) : Nat → mM
  | 0 => M
  | k + 1 => mBury1 (mBury M i w k) i k w
def mAged (r : List (List Int32)) (k : Nat) : List (List Int32) := r.set k [(r.getD k []).getD 0 0, (r.getD k []).getD 1 0, (r.getD k []).getD 2 0, (r.getD k []).getD 3 0 + 1]
def mAgeF (n i : Nat) : Nat → Nat → mM → mM
  | 0, _, M => M
  | rem + 1, k, M => if (((M.2.1 i).getD k []).getD 3 0 + 1) < 3 then mAgeF n i rem (k + 1) (mRl M i (mAged (M.2.1 i) k))
    else mAgeF n i rem k (mSend n (mRl (mRl M i (mAged (M.2.1 i) k)) i ((mAged (M.2.1 i) k).eraseIdx k)) 4 i (((M.2.1 i).getD k []).getD 1 0) (((M.2.1 i).getD k []).getD 0 0) (((M.2.1 i).getD k []).getD 1 0) (((M.2.1 i).getD k []).getD 2 0))
def mAge (n : Nat) (M : mM) (i : Nat) : mM := mAgeF n i (M.2.1 i).length 0 M
def mProbe (n : Nat) (M : mM) (i m : Nat) : mM :=
  let M1 := mSet (mSet (mSet (mSet (mSet (mSet (mSet M 21 i 0 (nI m)) 22 i 0 (nI m)) 20 i 0 (M.1 20 i 0 + 1)) 23 i 0 0) 24 i 0 0) 25 i 0 0) 26 i 0 0
  mSend n M1 1 i (nI m) (M.1 20 i 0 + 1) (nI i) (nI m)
def mRest (n : Nat) (M : mM) (i : Nat) : mM :=
  let M1 := mSet M 19 i 0 (M.1 19 i 0 - 1)
  if M.1 19 i 0 - 1 ≤ 0 then
    match mNext n (M.1 22 i 0).toNatClampNeg (mOkS M i 2) with
    | none => mSet M1 19 i 0 3
    | some m => mProbe n M1 i m
  else M1
def mAskF (n i : Nat) : Nat → Nat → mM → mM
  | 0, _, M => M
  | rem + 1, k, M => if 2 ≤ M.1 25 i 0 then M
    else if ((M.1 21 i 0).toNatClampNeg + k) % n ≠ i ∧ M.1 0 i (((M.1 21 i 0).toNatClampNeg + k) % n) = 1 then
      mAskF n i rem (k + 1) (mSet (mSend n M 3 i (nI (((M.1 21 i 0).toNatClampNeg + k) % n)) (M.1 20 i 0) (nI i) (M.1 21 i 0)) 25 i 0 (M.1 25 i 0 + 1))
    else mAskF n i rem (k + 1) M
def mMax0 (x : Int32) : Int32 := if 0 < x then x else 0
def mEnd (M : mM) (i : Nat) (w : Int32) : mM :=
  let M1 := if M.1 24 i 0 = 0 then
      let by_ := if M.1 25 i 0 = 0 then 1 else mMax0 (M.1 25 i 0 - M.1 26 i 0)
      let M0 := mSet M 17 i 0 (mMin4 (M.1 17 i 0 + by_))
      let m := (M.1 21 i 0).toNatClampNeg
      if M.1 0 i m = 1 then mSet (mBecome M0 i m 2 (M.1 1 i m) w) 3 i m (mBit (nI i)) else M0
    else mSet M 17 i 0 (mMax0 (M.1 17 i 0 - 1))
  mSet (mSet (mSet (mSet M1 21 i 0 (-1)) 23 i 0 0) 24 i 0 0) 19 i 0 (1 + M1.1 17 i 0)
def mGo (n : Nat) (M : mM) (i : Nat) (w : Int32) : mM :=
  let M1 := mSet M 23 i 0 (M.1 23 i 0 + 1)
  let M2 := if M.1 23 i 0 + 1 = 3 ∧ M.1 24 i 0 = 0 then mAskF n i (n - 1) 1 M1 else M1
  if M.1 23 i 0 + 1 < 8 then M2 else mEnd M2 i w
def mSync (n : Nat) (M : mM) (i : Nat) : mM :=
  match mNext n (M.1 27 i 0).toNatClampNeg (mOkS M i 1) with
  | none => M
  | some m => mSend n (mSet M 27 i 0 (nI m)) 6 i (nI m) 0 0 0
def mTimer (n : Nat) (M : mM) (i : Nat) (w : Int32) : mM :=
  let M1 := mBury (mAge n M i) i w n
  let M2 := if M1.1 21 i 0 = -1 then mRest n M1 i else mGo n M1 i w
  if w - M2.1 16 i 0 - (w - M2.1 16 i 0) / 20 * 20 = 0 then mSync n M2 i else M2
/-- the node's own numbers are in order -/
def mNi (n : Nat) (M : mM) (i : Nat) : Prop := isN n (M.1 22 i 0) ∧ isN n (M.1 27 i 0) ∧ (M.1 21 i 0 = -1 ∨ isN n (M.1 21 i 0))
theorem mNi.of {n : Nat} {M M' : mM} {i : Nat} (h : mNi n M i) (e1 : M'.1 22 i 0 = M.1 22 i 0) (e2 : M'.1 27 i 0 = M.1 27 i 0) (e3 : M'.1 21 i 0 = M.1 21 i 0) : mNi n M' i := by
  unfold mNi
  rw [e1, e2, e3]; exact h
theorem mBecome_1 {M : mM} {i j f i' j' : Nat} {s inc w : Int32} (h : 5 ≤ f) : (mBecome M i j s inc w).1 f i' j' = M.1 f i' j' := by
  unfold mBecome
  rw [mSet_ne (by omega), mSet_ne (by omega), mSet_ne (by omega), mSet_ne (by omega), mSet_ne (by omega)]
theorem mBury_1 {M : mM} {i f i' j' : Nat} {w : Int32} (h : 5 ≤ f) : ∀ {k : Nat}, (mBury M i w k).1 f i' j' = M.1 f i' j'
  | 0 => rfl
  | k + 1 => by
    show (mBury1 (mBury M i w k) i k w).1 f i' j' = _
    unfold mBury1
    split
    · rw [mBecome_1 h, mBury_1 h]
    · exact mBury_1 h
theorem mAgeF_1 {n i f i' j' : Nat} (h : f ≠ 4) : ∀ {rem k : Nat} {M : mM}, (mAgeF n i rem k M).1 f i' j' = M.1 f i' j'
  | 0, _, _ => rfl
  | rem + 1, k, M => by
    rw [mAgeF]
    split
    · rw [mAgeF_1 h]; rfl
    · rw [mAgeF_1 h, mSend_1 h]; rfl
/-- a relay grows older -/
theorem CR.aged {G : gG} {M : mM} {p i0 : Nat} {kc : Option (Nat × List Int32)} {S : gS} (h : CR G M p i0 kc S) {i k x : Nat} (hi : i < G.1) (hk : k < (M.2.1 i).length) (hx : S.2 (10, i, 0) k = some (11, i, x)) :
    CR G (mRl M i (mAged (M.2.1 i) k)) p i0 kc (gI S (11, i, x) 3 (((M.2.1 i).getD k []).getD 3 0 + 1)) ∧ gFr S (gI S (11, i, x) 3 (((M.2.1 i).getD k []).getD 3 0 + 1)) := by
  obtain ⟨ρ, a1, a2, a3, a4, a5⟩ := h.2.2.2.1 i hi
  have ex : ρ k = x := by
    have := (a3 k (by omega)).1.symm.trans hx
    simpa using this
  refine h.R (fun k' f h11 h7 => ?_) (fun i' k' f hne => ?_) (fun i' hne => ?_) (fun k f hne => rfl) ?_
  · rw [gI1, if_neg (fun q => h11 (by rw [q.1]))]
  · rw [gI1, if_neg (fun q => hne (by simpa using congrArg (fun z : gK => z.2.1) q.1))]
  · rw [gI1, if_neg (fun q => by simp at q)]
  · refine ⟨ρ, by rw [mAged, List.length_set]; exact a1, ?_, a3, a4, fun k' hk' f hf => ?_⟩
    · rw [gI1, if_neg (fun q => by simp at q), mAged, List.length_set]; exact a2
    · rw [mAged, List.length_set] at hk'
      by_cases e : k' = k
      · subst e
        have eg : (mAged (M.2.1 i) k').getD k' [] = [((M.2.1 i).getD k' []).getD 0 0, ((M.2.1 i).getD k' []).getD 1 0, ((M.2.1 i).getD k' []).getD 2 0, ((M.2.1 i).getD k' []).getD 3 0 + 1] := by
          rw [mAged, List.getD_eq_getElem?_getD, List.getElem?_set_self hk']; rfl
        rw [eg, ex, gI1]
        have s0 := a5 k' hk'
        rw [ex] at s0
        match f, hf with
        | 0, _ => rw [if_neg (fun q => by simp at q)]; exact s0 0 (by decide)
        | 1, _ => rw [if_neg (fun q => by simp at q)]; exact s0 1 (by decide)
        | 2, _ => rw [if_neg (fun q => by simp at q)]; exact s0 2 (by decide)
        | 3, _ => rw [if_pos ⟨rfl, rfl⟩]; rfl
        | f + 4, h => exact absurd h (by omega)
      · have eg : (mAged (M.2.1 i) k).getD k' [] = (M.2.1 i).getD k' [] := by
          rw [mAged, List.getD_eq_getElem?_getD, List.getElem?_set_ne (Ne.symm e), ← List.getD_eq_getElem?_getD]
        have hne : ρ k' ≠ x := fun q => e (a4 k' k (by omega) (by omega) (by rw [q, ex]))
        rw [eg, gI1, if_neg (fun q => hne (by simpa using congrArg (fun z : gK => z.2.2) q.1))]
        exact a5 k' hk' f hf
end
section
theorem sEnd_1 {S : gS} {i k len : Nat} {k2 : gK} {f : Nat} : (sEnd S i k len).1 k2 f = if k2 = (7, i, 0) ∧ f = 8 then nI (len - 1) else S.1 k2 f := rfl
theorem gc_N_nextBehind {G : gG} {la : Launch} {M : mM} {p i0 : Nat} {kc : Option (Nat × List Int32)} {S : gS} {i b : Nat} {w : Int32} (hi : i < G.1) (hb : b < G.1) (h : CR G M p i0 kc S) : gM G la qy_N_nextBehind qw_N_nextBehind 0 0 0 (gTt G) (gTt G) [.inr (some (7, i, 0)), .inl (nI b), .inl w] S (fun v S' => v = some (.inl (mB (mNext G.1 b (mOkS M i w)))) ∧ S' = S) := by
  refine gM_of (cc := qc_N_nextBehind) (maxL := 5) (by decide) rfl (Nat.le_of_ble_eq_true rfl) ?_
  intro E cx hr hnm hcz hsz hEl
  subst hEl
  have hst := h.1.1
  obtain ⟨hid, hcnt⟩ := h.1.2.2.2.1 i hi
  have h8 := h.1.2.1
  suffices hh : ∀ rem k, k + rem = G.1 + 1 → 1 ≤ k → mNext G.1 b (mOkS M i w) = mNextF G.1 b (mOkS M i w) rem k → gZ G E 0 0 (gEnd G E 0 0 (gTt G) (fun v S' => v = some (.inl (mB (mNext G.1 b (mOkS M i w)))) ∧ S' = S)) (gTt G) 2 [some (.inr (some (7, i, 0))), some (.inl (nI b)), some (.inl w), some (.inl (nI k)), none] [] S by
    refine gz_iconst (v := 1) (pc := 0) cx qd_N_nextBehind_0 (by decide) ?_
    refine gz_istore_n (pc := 1) cx qd_N_nextBehind_1 rfl (Nat.le_of_ble_eq_true rfl) ?_
    exact hh G.1 1 (by omega) (Nat.le_refl _) rfl
  intro rem
  induction rem with
  | zero =>
    intro k hk hk1 he
    refine gz_iload_n (pc := 2) cx qd_N_nextBehind_2 rfl rfl ?_
    refine gz_aload_n (pc := 3) cx qd_N_nextBehind_3 rfl rfl ?_
    refine gz_getV (pc := 4) cx qf_N_21 qd_N_nextBehind_4 (gm_N (by assumption)) rfl rfl hcnt ?_
    refine gz_icmp_gt (tgt := 65) (pc := 7) cx qd_N_nextBehind_7 (by decide) (fun _ => ?_) (fun h7 => absurd (show nI G.1 < nI k from nI_lt (by omega) (by omega)) h7)
    refine gz_iconst (v := -1) (pc := 65) cx qd_N_nextBehind_65 (by decide) ?_
    refine gz_ireturn (pc := 66) cx hr rfl qd_N_nextBehind_66 ?_
    exact ⟨by rw [he]; rfl, rfl⟩
  | succ rem ih =>
    intro k hk hk1 he
    have hmn : (b + k) % G.1 < G.1 := Nat.mod_lt _ (by omega)
    have e0 : S.1 (9, i, (b + k) % G.1) 0 = M.1 0 i ((b + k) % G.1) := h.2.1 i _ 0 hi hmn (by decide)
    have hmi : nI ((b + k) % G.1) = nI i ↔ (b + k) % G.1 = i := nI_eq (by omega) (by omega)
    refine gz_iload_n (pc := 2) cx qd_N_nextBehind_2 rfl rfl ?_
    refine gz_aload_n (pc := 3) cx qd_N_nextBehind_3 rfl rfl ?_
    refine gz_getV (pc := 4) cx qf_N_21 qd_N_nextBehind_4 (gm_N (by assumption)) rfl rfl hcnt ?_
    refine gz_icmp_gt (tgt := 65) (pc := 7) cx qd_N_nextBehind_7 (by decide) (fun h7 => absurd h7 (nI_nlt (by omega) (by omega))) (fun _ => ?_)
    refine gz_iload_n (pc := 10) cx qd_N_nextBehind_10 rfl rfl ?_
    refine gz_iload_n (pc := 11) cx qd_N_nextBehind_11 rfl rfl ?_
    refine gz_iadd (pc := 12) cx qd_N_nextBehind_12 ?_
    refine gz_aload_n (pc := 13) cx qd_N_nextBehind_13 rfl rfl ?_
    refine gz_getV (pc := 14) cx qf_N_21 qd_N_nextBehind_14 (gm_N (by assumption)) rfl rfl hcnt ?_
    refine gz_irem (pc := 17) cx qd_N_nextBehind_17 (nI_ne0 (by omega) (by omega)) ?_
    rw [nI_add, pk_rem (by omega) (by omega) (by omega)]
    refine gz_istore (pc := 18) cx qd_N_nextBehind_18 (Nat.le_of_ble_eq_true rfl) ?_
    refine gz_iload (pc := 20) cx qd_N_nextBehind_20 rfl ?_
    refine gz_aload_n (pc := 22) cx qd_N_nextBehind_22 rfl rfl ?_
    refine gz_getV (pc := 23) cx qf_N_17 qd_N_nextBehind_23 (gm_N (by assumption)) rfl rfl hid ?_
    refine gz_icmp_eq (tgt := 59) (pc := 26) cx qd_N_nextBehind_26 (by decide) (fun h26 => ?_) (fun h26 => ?_)
    · refine gz_iinc (pc := 59) cx qd_N_nextBehind_59 rfl (g_inc k) ?_
      refine gz_goto (tgt := 2) (pc := 62) cx qd_N_nextBehind_62 (by decide) ?_
      refine gz_weak (lv' := [some (.inr (some (7, i, 0))), some (.inl (nI b)), some (.inl w), some (.inl (nI (k + 1))), none]) ⟨rfl, rfl, rfl, rfl, trivial⟩ ?_
      refine ih (k + 1) (by omega) (by omega) ?_
      rw [he, mNextF, if_neg]
      unfold mOkS
      exact fun q => (of_decide_eq_true q).1 (hmi.mp h26)
    · refine gz_aload_n (pc := 29) cx qd_N_nextBehind_29 rfl rfl ?_
      refine gz_getR (pc := 30) cx qf_N_30 qd_N_nextBehind_30 (gm_N (by assumption)) rfl rfl (hst _ _ _ rfl) ?_
      refine gz_iload (pc := 33) cx qd_N_nextBehind_33 rfl ?_
      refine gz_aaload (pc := 35) cx qd_N_nextBehind_35 (by first | exact gm_tb (by assumption) | exact gm_ns | exact gm_cf | exact gm_w (by assumption) | exact gm_nw (by assumption) | exact gm_rs (by assumption) | exact gm_M (by assumption) | exact gm_R (by assumption) (by assumption) | exact gm_za (by decide) (by decide)) rfl ⟨by decide, by decide, rfl⟩ (hst _ _ _ rfl) rfl (by assumption) (by omega) ?_
      refine gz_getV (pc := 36) cx qf_N_86 qd_N_nextBehind_36 (gm_E (by assumption) (by assumption)) rfl rfl e0 ?_
      refine gz_if_eq (tgt := 59) (pc := 39) cx qd_N_nextBehind_39 (by decide) (fun h39 => ?_) (fun h39 => ?_)
      · refine gz_iinc (pc := 59) cx qd_N_nextBehind_59 rfl (g_inc k) ?_
        refine gz_goto (tgt := 2) (pc := 62) cx qd_N_nextBehind_62 (by decide) ?_
        refine gz_weak (lv' := [some (.inr (some (7, i, 0))), some (.inl (nI b)), some (.inl w), some (.inl (nI (k + 1))), none]) ⟨rfl, rfl, rfl, rfl, trivial⟩ ?_
        refine ih (k + 1) (by omega) (by omega) ?_
        rw [he, mNextF, if_neg]
        unfold mOkS
        exact fun q => (of_decide_eq_true q).2.1 h39
      · refine gz_aload_n (pc := 42) cx qd_N_nextBehind_42 rfl rfl ?_
        refine gz_getR (pc := 43) cx qf_N_30 qd_N_nextBehind_43 (gm_N (by assumption)) rfl rfl (hst _ _ _ rfl) ?_
        refine gz_iload (pc := 46) cx qd_N_nextBehind_46 rfl ?_
        refine gz_aaload (pc := 48) cx qd_N_nextBehind_48 (by first | exact gm_tb (by assumption) | exact gm_ns | exact gm_cf | exact gm_w (by assumption) | exact gm_nw (by assumption) | exact gm_rs (by assumption) | exact gm_M (by assumption) | exact gm_R (by assumption) (by assumption) | exact gm_za (by decide) (by decide)) rfl ⟨by decide, by decide, rfl⟩ (hst _ _ _ rfl) rfl (by assumption) (by omega) ?_
        refine gz_getV (pc := 49) cx qf_N_86 qd_N_nextBehind_49 (gm_E (by assumption) (by assumption)) rfl rfl e0 ?_
        refine gz_iload_n (pc := 52) cx qd_N_nextBehind_52 rfl rfl ?_
        refine gz_icmp_gt (tgt := 59) (pc := 53) cx qd_N_nextBehind_53 (by decide) (fun h53 => ?_) (fun h53 => ?_)
        · refine gz_iinc (pc := 59) cx qd_N_nextBehind_59 rfl (g_inc k) ?_
          refine gz_goto (tgt := 2) (pc := 62) cx qd_N_nextBehind_62 (by decide) ?_
          refine gz_weak (lv' := [some (.inr (some (7, i, 0))), some (.inl (nI b)), some (.inl w), some (.inl (nI (k + 1))), none]) ⟨rfl, rfl, rfl, rfl, trivial⟩ ?_
          refine ih (k + 1) (by omega) (by omega) ?_
          rw [he, mNextF, if_neg]
          unfold mOkS
          exact fun q => absurd h53 (Int32.not_lt.mpr (of_decide_eq_true q).2.2)
        · refine gz_iload (pc := 56) cx qd_N_nextBehind_56 rfl ?_
          refine gz_ireturn (pc := 58) cx hr rfl qd_N_nextBehind_58 ?_
          refine ⟨?_, rfl⟩
          rw [he, mNextF, if_pos]
          · rfl
          · unfold mOkS
            exact decide_eq_true ⟨fun q => h26 (hmi.mpr q), h39, Int32.not_lt.mp h53⟩
theorem gc_N_buryOverdue {G : gG} {la : Launch} {M : mM} {i0 : Nat} {kc : Option (Nat × List Int32)} {S : gS} {i : Nat} {w : Int32} (hi : i < G.1) (h : CR G M 0 i0 kc S) : gM G la qy_N_buryOverdue qw_N_buryOverdue 2 0 0 (gTt G) (gTt G) [.inr (some (7, i, 0)), .inl w] S (fun v S' => v = none ∧ CR G (mBury M i w G.1) 0 i0 kc S' ∧ gFr S S') := by
  refine gM_of (cc := qc_N_buryOverdue) (maxL := 5) (by decide) rfl (Nat.le_of_ble_eq_true rfl) ?_
  intro E cx hr hnm hcz hsz hEl
  subst hEl
  have h8 := h.1.2.1
  suffices hh : ∀ k, k ≤ G.1 → ∀ Sk, CR G (mBury M i w k) 0 i0 kc Sk → gFr S Sk → gZ G E 0 0 (gEnd G E 0 0 (gTt G) (fun v S' => v = none ∧ CR G (mBury M i w G.1) 0 i0 kc S' ∧ gFr S S')) (gTt G) 2 [some (.inr (some (7, i, 0))), some (.inl w), some (.inl (nI k)), none, none] [] Sk by
    refine gz_iconst (v := 0) (pc := 0) cx qd_N_buryOverdue_0 (by decide) ?_
    refine gz_istore_n (pc := 1) cx qd_N_buryOverdue_1 rfl (Nat.le_of_ble_eq_true rfl) ?_
    exact hh 0 (Nat.zero_le _) S h gFr.rf
  refine g_upto ?_ ?_
  · intro Sk hc hf
    obtain ⟨hid, hcnt⟩ := hc.1.2.2.2.1 i hi
    refine gz_iload_n (pc := 2) cx qd_N_buryOverdue_2 rfl rfl ?_
    refine gz_aload_n (pc := 3) cx qd_N_buryOverdue_3 rfl rfl ?_
    refine gz_getV (pc := 4) cx qf_N_21 qd_N_buryOverdue_4 (gm_N (by assumption)) rfl rfl hcnt ?_
    refine gz_icmp_ge (tgt := 79) (pc := 7) cx qd_N_buryOverdue_7 (by decide) (fun _ => ?_) (fun h7 => absurd (Int32.le_refl _) h7)
    refine gz_return (pc := 79) cx hr qd_N_buryOverdue_79 ?_
    exact ⟨rfl, hc, hf⟩
  · intro k hk ih Sk hc hf
    obtain ⟨hid, hcnt⟩ := hc.1.2.2.2.1 i hi
    have hst := hc.1.1
    have e0 := hc.2.1 i k 0 hi hk (by decide)
    have e1 := hc.2.1 i k 1 hi hk (by decide)
    have e2 := hc.2.1 i k 2 hi hk (by decide)
    have e3 := hc.2.1 i k 3 hi hk (by decide)
    have hmi : nI k = nI i ↔ k = i := nI_eq (by omega) (by omega)
    refine gz_iload_n (pc := 2) cx qd_N_buryOverdue_2 rfl rfl ?_
    refine gz_aload_n (pc := 3) cx qd_N_buryOverdue_3 rfl rfl ?_
    refine gz_getV (pc := 4) cx qf_N_21 qd_N_buryOverdue_4 (gm_N (by assumption)) rfl rfl hcnt ?_
    refine gz_icmp_ge (tgt := 79) (pc := 7) cx qd_N_buryOverdue_7 (by decide) (fun h7 => absurd h7 (nI_ge hk (by omega))) (fun _ => ?_)
    refine gz_aload_n (pc := 10) cx qd_N_buryOverdue_10 rfl rfl ?_
    refine gz_getR (pc := 11) cx qf_N_30 qd_N_buryOverdue_11 (gm_N (by assumption)) rfl rfl (hst _ _ _ rfl) ?_
    refine gz_iload_n (pc := 14) cx qd_N_buryOverdue_14 rfl rfl ?_
    refine gz_aaload (pc := 15) cx qd_N_buryOverdue_15 (by first | exact gm_tb (by assumption) | exact gm_ns | exact gm_cf | exact gm_w (by assumption) | exact gm_nw (by assumption) | exact gm_rs (by assumption) | exact gm_M (by assumption) | exact gm_R (by assumption) (by assumption) | exact gm_za (by decide) (by decide)) rfl ⟨by decide, by decide, rfl⟩ (hst _ _ _ rfl) rfl (by assumption) (by omega) ?_
    refine gz_astore_n (pc := 16) cx qd_N_buryOverdue_16 rfl (Nat.le_of_ble_eq_true rfl) ?_
    refine gz_iload_n (pc := 17) cx qd_N_buryOverdue_17 rfl rfl ?_
    refine gz_aload_n (pc := 18) cx qd_N_buryOverdue_18 rfl rfl ?_
    refine gz_getV (pc := 19) cx qf_N_17 qd_N_buryOverdue_19 (gm_N (by assumption)) rfl rfl hid ?_
    refine gz_icmp_eq (tgt := 73) (pc := 22) cx qd_N_buryOverdue_22 (by decide) (fun h22 => ?_) (fun h22 => ?_)
    · refine gz_iinc (pc := 73) cx qd_N_buryOverdue_73 rfl (g_inc k) ?_
      refine gz_goto (tgt := 2) (pc := 76) cx qd_N_buryOverdue_76 (by decide) ?_
      refine gz_weak (lv' := [some (.inr (some (7, i, 0))), some (.inl w), some (.inl (nI (k + 1))), none, none]) ⟨rfl, rfl, rfl, trivial⟩ ?_
      refine ih _ ?_ hf
      show CR G (mBury1 (mBury M i w k) i k w) _ _ _ _
      unfold mBury1
      rw [if_neg (fun q => q.1 (hmi.mp h22))]
      exact hc
    · refine gz_aload_n (pc := 25) cx qd_N_buryOverdue_25 rfl rfl ?_
      refine gz_getV (pc := 26) cx qf_N_86 qd_N_buryOverdue_26 (gm_E (by assumption) (by assumption)) rfl rfl e0 ?_
      refine gz_iconst (v := 2) (pc := 29) cx qd_N_buryOverdue_29 (by decide) ?_
      refine gz_icmp_ne (tgt := 73) (pc := 30) cx qd_N_buryOverdue_30 (by decide) (fun h30 => ?_) (fun h30 => ?_)
      · refine gz_iinc (pc := 73) cx qd_N_buryOverdue_73 rfl (g_inc k) ?_
        refine gz_goto (tgt := 2) (pc := 76) cx qd_N_buryOverdue_76 (by decide) ?_
        refine gz_weak (lv' := [some (.inr (some (7, i, 0))), some (.inl w), some (.inl (nI (k + 1))), none, none]) ⟨rfl, rfl, rfl, trivial⟩ ?_
        refine ih _ ?_ hf
        show CR G (mBury1 (mBury M i w k) i k w) _ _ _ _
        unfold mBury1
        rw [if_neg (fun q => h30 q.2.1)]
        exact hc
      · refine gz_iconst (v := 3) (pc := 33) cx qd_N_buryOverdue_33 (by decide) ?_
        refine gz_aload_n (pc := 34) cx qd_N_buryOverdue_34 rfl rfl ?_
        refine gz_getV (pc := 35) cx qf_N_174 qd_N_buryOverdue_35 (gm_E (by assumption) (by assumption)) rfl rfl e3 ?_
        refine gz_callS (pc := 38) cx qs_N_217 qd_N_buryOverdue_38 (gc_J_bitCount) (by decide) rfl rfl rfl (Nat.le_of_ble_eq_true rfl) ⟨Nat.zero_le _, Nat.zero_le _⟩ ?_
        rintro _ _ ⟨rfl, rfl⟩
        refine gz_min (pc := 41) cx qm_N_184 qm_min_s qm_i qm_min_c qd_N_buryOverdue_41 (by decide) rfl (Nat.le_of_ble_eq_true rfl) ⟨Nat.zero_le _, Nat.zero_le _⟩ ?_
        refine gz_istore (pc := 44) cx qd_N_buryOverdue_44 (Nat.le_of_ble_eq_true rfl) ?_
        refine gz_iload_n (pc := 46) cx qd_N_buryOverdue_46 rfl rfl ?_
        refine gz_aload_n (pc := 47) cx qd_N_buryOverdue_47 rfl rfl ?_
        refine gz_getV (pc := 48) cx qf_N_222 qd_N_buryOverdue_48 (gm_E (by assumption) (by assumption)) rfl rfl e2 ?_
        refine gz_isub (pc := 51) cx qd_N_buryOverdue_51 ?_
        refine gz_bipush (v := 24) (pc := 52) cx qd_N_buryOverdue_52 (by decide) ?_
        refine gz_bipush (v := 6) (pc := 54) cx qd_N_buryOverdue_54 (by decide) ?_
        refine gz_iload (pc := 56) cx qd_N_buryOverdue_56 rfl ?_
        refine gz_imul (pc := 58) cx qd_N_buryOverdue_58 ?_
        refine gz_isub (pc := 59) cx qd_N_buryOverdue_59 ?_
        refine gz_icmp_lt (tgt := 73) (pc := 60) cx qd_N_buryOverdue_60 (by decide) (fun h60 => ?_) (fun h60 => ?_)
        · refine gz_iinc (pc := 73) cx qd_N_buryOverdue_73 rfl (g_inc k) ?_
          refine gz_goto (tgt := 2) (pc := 76) cx qd_N_buryOverdue_76 (by decide) ?_
          refine gz_weak (lv' := [some (.inr (some (7, i, 0))), some (.inl w), some (.inl (nI (k + 1))), none, none]) ⟨rfl, rfl, rfl, trivial⟩ ?_
          refine ih _ ?_ hf
          show CR G (mBury1 (mBury M i w k) i k w) _ _ _ _
          unfold mBury1
          rw [if_neg (fun q => absurd h60 (Int32.not_lt.mpr q.2.2))]
          exact hc
        · refine gz_aload_n (pc := 63) cx qd_N_buryOverdue_63 rfl rfl ?_
          refine gz_iconst (v := 3) (pc := 64) cx qd_N_buryOverdue_64 (by decide) ?_
          refine gz_aload_n (pc := 65) cx qd_N_buryOverdue_65 rfl rfl ?_
          refine gz_getV (pc := 66) cx qf_N_83 qd_N_buryOverdue_66 (gm_E (by assumption) (by assumption)) rfl rfl e1 ?_
          refine gz_iload_n (pc := 69) cx qd_N_buryOverdue_69 rfl rfl ?_
          refine gz_callV (pc := 70) cx qv_N_39 qd_N_buryOverdue_70 (gc_E_become hi hk) (by decide) rfl (gm_E (by assumption) (by assumption)) rfl rfl rfl rfl (Nat.le_of_ble_eq_true rfl) ⟨Nat.zero_le _, Nat.zero_le _⟩ ?_
          rintro _ _ ⟨rfl, rfl⟩
          refine gz_iinc (pc := 73) cx qd_N_buryOverdue_73 rfl (g_inc k) ?_
          refine gz_goto (tgt := 2) (pc := 76) cx qd_N_buryOverdue_76 (by decide) ?_
          refine gz_weak (lv' := [some (.inr (some (7, i, 0))), some (.inl w), some (.inl (nI (k + 1))), none, none]) ⟨rfl, rfl, rfl, trivial⟩ ?_
          obtain ⟨c2, f2⟩ := hc.become (i := i) (j := k) 3 ((mBury M i w k).1 1 i k) w
          refine ih _ ?_ (hf.tr f2)
          show CR G (mBury1 (mBury M i w k) i k w) _ _ _ _
          unfold mBury1
          rw [if_pos ⟨fun q => h22 (hmi.mpr q), h30, Int32.not_lt.mp h60⟩]
          exact c2
theorem gc_N_ageRelays {G : gG} {la : Launch} {M : mM} {i0 : Nat} {kc : Option (Nat × List Int32)} {S : gS} {i : Nat} (hi : i < G.1) (h : CR G M 0 i0 kc S) : gM G la qy_N_ageRelays qw_N_ageRelays 3 0 0 (gTt G) (gTt G) [.inr (some (7, i, 0))] S (fun v S' => v = none ∧ CR G (mAge G.1 M i) 0 i0 kc S' ∧ gFr S S') := by
  refine gM_of (cc := qc_N_ageRelays) (maxL := 5) (by decide) rfl (Nat.le_of_ble_eq_true rfl) ?_
  intro E cx hr hnm hcz hsz hEl
  subst hEl
  have hlen4 : (M.2.1 i).length ≤ 4 := (h.2.2.2.1 i hi).choose_spec.1
  have hcount : S.1 (7, i, 0) 8 = nI (M.2.1 i).length := (h.2.2.2.1 i hi).choose_spec.2.1
  suffices hh : ∀ rem x k Mk Sk, x + rem = (M.2.1 i).length → k ≤ x → (Mk.2.1 i).length = k + rem → CR G Mk 0 i0 kc Sk → gFr S Sk → mAge G.1 M i = mAgeF G.1 i rem k Mk → gZ G E 0 0 (gEnd G E 0 0 (gTt G) (fun v S' => v = none ∧ CR G (mAge G.1 M i) 0 i0 kc S' ∧ gFr S S')) (gTt G) 9 [some (.inr (some (7, i, 0))), some (.inl (nI (M.2.1 i).length)), some (.inl (nI (x - k))), some (.inl (nI x)), none] [] Sk by
    refine gz_aload_n (pc := 0) cx qd_N_ageRelays_0 rfl rfl ?_
    refine gz_getV (pc := 1) cx qf_N_53 qd_N_ageRelays_1 (gm_N (by assumption)) rfl rfl hcount ?_
    refine gz_istore_n (pc := 4) cx qd_N_ageRelays_4 rfl (Nat.le_of_ble_eq_true rfl) ?_
    refine gz_iconst (v := 0) (pc := 5) cx qd_N_ageRelays_5 (by decide) ?_
    refine gz_istore_n (pc := 6) cx qd_N_ageRelays_6 rfl (Nat.le_of_ble_eq_true rfl) ?_
    refine gz_iconst (v := 0) (pc := 7) cx qd_N_ageRelays_7 (by decide) ?_
    refine gz_istore_n (pc := 8) cx qd_N_ageRelays_8 rfl (Nat.le_of_ble_eq_true rfl) ?_
    exact hh (M.2.1 i).length 0 0 M S (by omega) (Nat.le_refl _) (by omega) h gFr.rf rfl
  intro rem
  induction rem with
  | zero =>
    intro x k Mk Sk hx hkx hl hc hf he
    obtain rfl : x = (M.2.1 i).length := by omega
    refine gz_iload_n (pc := 9) cx qd_N_ageRelays_9 rfl rfl ?_
    refine gz_iload_n (pc := 10) cx qd_N_ageRelays_10 rfl rfl ?_
    refine gz_icmp_ge (tgt := 85) (pc := 11) cx qd_N_ageRelays_11 (by decide) (fun _ => ?_) (fun h11 => absurd (Int32.le_refl _) h11)
    refine gz_return (pc := 85) cx hr qd_N_ageRelays_85 ?_
    exact ⟨rfl, by rw [he]; exact hc, hf⟩
  | succ rem ih =>
    intro x k Mk Sk hx hkx hl hc hf he
    have hst := hc.1.1
    obtain ⟨ρ, a1, a2, a3, a4, a5⟩ := hc.2.2.2.1 i hi
    have hk : k < (Mk.2.1 i).length := by omega
    have hk4 : k < 4 := by omega
    have hsub : nI x - nI (x - k) = nI k := by rw [pk_sub (by omega)]; exact congrArg nI (by omega)
    obtain ⟨c1, f1⟩ := hc.aged hi hk (a3 k hk4).1
    have ea : (mAged (Mk.2.1 i) k).length = (Mk.2.1 i).length := by rw [mAged, List.length_set]
    have er1 : (mRl Mk i (mAged (Mk.2.1 i) k)).2.1 i = mAged (Mk.2.1 i) k := if_pos rfl
    refine gz_iload_n (pc := 9) cx qd_N_ageRelays_9 rfl rfl ?_
    refine gz_iload_n (pc := 10) cx qd_N_ageRelays_10 rfl rfl ?_
    refine gz_icmp_ge (tgt := 85) (pc := 11) cx qd_N_ageRelays_11 (by decide) (fun h11 => absurd h11 (nI_ge (by omega) (by omega))) (fun _ => ?_)
    refine gz_aload_n (pc := 14) cx qd_N_ageRelays_14 rfl rfl ?_
    refine gz_getR (pc := 15) cx qf_N_13 qd_N_ageRelays_15 (gm_N (by assumption)) rfl rfl (hst _ _ _ rfl) ?_
    refine gz_iload_n (pc := 18) cx qd_N_ageRelays_18 rfl rfl ?_
    refine gz_iload_n (pc := 19) cx qd_N_ageRelays_19 rfl rfl ?_
    refine gz_isub (pc := 20) cx qd_N_ageRelays_20 ?_
    refine gz_aaload (pc := 21) cx qd_N_ageRelays_21 (by first | exact gm_tb (by assumption) | exact gm_ns | exact gm_cf | exact gm_w (by assumption) | exact gm_nw (by assumption) | exact gm_rs (by assumption) | exact gm_M (by assumption) | exact gm_R (by assumption) (by assumption) | exact gm_za (by decide) (by decide)) rfl ⟨by decide, by decide, rfl⟩ (a3 k hk4).1 hsub hk4 (by decide) ?_
    refine gz_astore (pc := 22) cx qd_N_ageRelays_22 (Nat.le_of_ble_eq_true rfl) ?_
    refine gz_aload (pc := 24) cx qd_N_ageRelays_24 rfl ?_
    refine gz_dup (pc := 26) cx qd_N_ageRelays_26 ?_
    refine gz_getV (pc := 27) cx qf_N_199 qd_N_ageRelays_27 (gm_R hi (a3 k hk4).2) rfl rfl (a5 k hk 3 (by decide)) ?_
    refine gz_iconst (v := 1) (pc := 30) cx qd_N_ageRelays_30 (by decide) ?_
    refine gz_iadd (pc := 31) cx qd_N_ageRelays_31 ?_
    refine gz_putI (pc := 32) cx qp_N_199 qd_N_ageRelays_32 (gm_R hi (a3 k hk4).2) rfl rfl ⟨rfl, rfl⟩ (fun h => nomatch h) ?_
    refine gz_aload (pc := 35) cx qd_N_ageRelays_35 rfl ?_
    refine gz_getV (pc := 37) cx qf_N_199 qd_N_ageRelays_37 (gm_R hi (a3 k hk4).2) rfl rfl (if_pos ⟨rfl, rfl⟩) ?_
    refine gz_iconst (v := 3) (pc := 40) cx qd_N_ageRelays_40 (by decide) ?_
    refine gz_icmp_lt (tgt := 79) (pc := 41) cx qd_N_ageRelays_41 (by decide) (fun h41 => ?_) (fun h41 => ?_)
    · refine gz_iinc (pc := 79) cx qd_N_ageRelays_79 rfl (g_inc x) ?_
      refine gz_goto (tgt := 9) (pc := 82) cx qd_N_ageRelays_82 (by decide) ?_
      refine gz_weak (lv' := [some (.inr (some (7, i, 0))), some (.inl (nI (M.2.1 i).length)), some (.inl (nI (x + 1 - (k + 1)))), some (.inl (nI (x + 1))), none]) ⟨rfl, rfl, congrArg (fun z : Nat => (some (.inl (nI z)) : Option gV)) (show x - k = x + 1 - (k + 1) by omega), rfl, trivial⟩ ?_
      refine ih (x + 1) (k + 1) _ _ (by omega) (by omega) (by rw [er1, ea]; omega) c1 (hf.tr f1) ?_
      rw [he, mAgeF, if_pos h41]
    · refine gz_aload_n (pc := 44) cx qd_N_ageRelays_44 rfl rfl ?_
      refine gz_iload_n (pc := 45) cx qd_N_ageRelays_45 rfl rfl ?_
      refine gz_iload_n (pc := 46) cx qd_N_ageRelays_46 rfl rfl ?_
      refine gz_isub (pc := 47) cx qd_N_ageRelays_47 ?_
      rw [hsub]
      refine gz_callV (pc := 48) cx qv_N_193 qd_N_ageRelays_48 (gc_N_endRelay (ρ := ρ) (len := (Mk.2.1 i).length) (S := (gI Sk (11, i, ρ k) 3 (((Mk.2.1 i).getD k []).getD 3 0 + 1))) hi hst a1 hk (by rw [gI1, if_neg (fun q => by simp at q)]; exact a2) a3) (by decide) rfl (gm_N (by assumption)) rfl rfl rfl rfl (Nat.le_of_ble_eq_true rfl) ⟨Nat.zero_le _, Nat.zero_le _⟩ ?_
      rintro _ _ ⟨rfl, rfl⟩
      obtain ⟨c2, f2⟩ := c1.endRelay (k := k) hi (by rw [er1, ea]; exact hk)
      rw [er1, ea] at c2 f2
      have v1 : ∀ f, f < 3 → (sEnd (gI Sk (11, i, ρ k) 3 (((Mk.2.1 i).getD k []).getD 3 0 + 1)) i k (Mk.2.1 i).length).1 (11, i, ρ k) f = ((Mk.2.1 i).getD k []).getD f 0 := by
        intro f hf3
        rw [sEnd_1, if_neg (fun q => by simp at q), gI1, if_neg (fun q => by omega)]
        exact a5 k hk f (by omega)
      refine gz_iinc (pc := 51) cx qd_N_ageRelays_51 rfl ((g_inc (x - k)).trans (congrArg nI (show x - k + 1 = x + 1 - k by omega))) ?_
      refine gz_aload_n (pc := 54) cx qd_N_ageRelays_54 rfl rfl ?_
      refine gz_iconst (v := 4) (pc := 55) cx qd_N_ageRelays_55 (by decide) ?_
      refine gz_aload (pc := 56) cx qd_N_ageRelays_56 rfl ?_
      refine gz_getV (pc := 58) cx qf_N_197 qd_N_ageRelays_58 (gm_R hi (a3 k hk4).2) rfl rfl (v1 1 (by decide)) ?_
      refine gz_aload (pc := 61) cx qd_N_ageRelays_61 rfl ?_
      refine gz_getV (pc := 63) cx qf_N_196 qd_N_ageRelays_63 (gm_R hi (a3 k hk4).2) rfl rfl (v1 0 (by decide)) ?_
      refine gz_aload (pc := 66) cx qd_N_ageRelays_66 rfl ?_
      refine gz_getV (pc := 68) cx qf_N_197 qd_N_ageRelays_68 (gm_R hi (a3 k hk4).2) rfl rfl (v1 1 (by decide)) ?_
      refine gz_aload (pc := 71) cx qd_N_ageRelays_71 rfl ?_
      refine gz_getV (pc := 73) cx qf_N_198 qd_N_ageRelays_73 (gm_R hi (a3 k hk4).2) rfl rfl (v1 2 (by decide)) ?_
      refine gz_callV (pc := 76) cx qv_N_89 qd_N_ageRelays_76 (gc_send hi c2 (Or.inl rfl)) (by decide) rfl (gm_N (by assumption)) rfl rfl rfl rfl (Nat.le_of_ble_eq_true rfl) ⟨Nat.zero_le _, Nat.zero_le _⟩ ?_
      rintro _ S' ⟨rfl, c3, f3⟩
      refine gz_iinc (pc := 79) cx qd_N_ageRelays_79 rfl (g_inc x) ?_
      refine gz_goto (tgt := 9) (pc := 82) cx qd_N_ageRelays_82 (by decide) ?_
      refine gz_weak (lv' := [some (.inr (some (7, i, 0))), some (.inl (nI (M.2.1 i).length)), some (.inl (nI (x + 1 - k))), some (.inl (nI (x + 1))), none]) ⟨rfl, rfl, rfl, rfl, trivial⟩ ?_
      refine ih (x + 1) k _ _ (by omega) (by omega) ?_ c3 (((hf.tr f1).tr f2).tr f3) ?_
      · rw [mSend_r]
        show (if i = i then _ else _ : List (List Int32)).length = _
        rw [if_pos rfl, List.length_eraseIdx_of_lt (by rw [ea]; exact hk), ea]; omega
      · rw [he, mAgeF, if_neg h41]
end
section
theorem mOkS_set {M : mM} {f i2 j i : Nat} {v w : Int32} (hf : f ≠ 0) : mOkS (mSet M f i2 j v) i w = mOkS M i w := by
  funext m
  unfold mOkS
  rw [mSet_ne (fun q => hf q.1.symm)]
theorem mAskF_1 {n i f i2 j : Nat} (h4 : f ≠ 4) (h25 : f ≠ 25) : ∀ {rem k : Nat} {M : mM}, (mAskF n i rem k M).1 f i2 j = M.1 f i2 j
  | 0, _, _ => rfl
  | rem + 1, k, M => by
    rw [mAskF]
    split
    · rfl
    · split
      · rw [mAskF_1 h4 h25, mSet_ne (fun q => h25 q.1), mSend_1 h4]
      · exact mAskF_1 h4 h25
theorem gc_N_restOrProbe {G : gG} {la : Launch} {M : mM} {i0 : Nat} {kc : Option (Nat × List Int32)} {S : gS} {i : Nat} (hi : i < G.1) (h : CR G M 0 i0 kc S) (hni : isN G.1 (M.1 22 i 0)) : gM G la qy_N_restOrProbe qw_N_restOrProbe 3 0 0 (gTt G) (gTt G) [.inr (some (7, i, 0))] S (fun v S' => v = none ∧ CR G (mRest G.1 M i) 0 i0 kc S' ∧ gFr S S') := by
  refine gM_of (cc := qc_N_restOrProbe) (maxL := 2) (by decide) rfl (Nat.le_of_ble_eq_true rfl) ?_
  intro E cx hr hnm hcz hsz hEl
  subst hEl
  have h8 := h.1.2.1
  obtain ⟨b, hb, hlb⟩ := hni
  have e9 : S.1 (7, i, 0) 9 = M.1 19 i 0 := h.2.2.1 i 9 hi (by decide) (by decide) (by decide)
  obtain ⟨c1, f1⟩ := h.N (i := i) (f := 9) (by decide) (by decide) (by decide) (M.1 19 i 0 - 1)
  have hsp : mRest G.1 M i = if M.1 19 i 0 - 1 ≤ 0 then (match mNext G.1 b (mOkS M i 2) with
      | none => mSet (mSet M 19 i 0 (M.1 19 i 0 - 1)) 19 i 0 3
      | some m => mProbe G.1 (mSet M 19 i 0 (M.1 19 i 0 - 1)) i m) else mSet M 19 i 0 (M.1 19 i 0 - 1) := by
    unfold mRest
    rw [hlb, nI_clamp (by omega)]
    rfl
  have hok : mOkS (mSet M 19 i 0 (M.1 19 i 0 - 1)) i 2 = mOkS M i 2 := mOkS_set (by decide)
  have l12 : (gI S (7, i, 0) 9 (M.1 19 i 0 - 1)).1 (7, i, 0) 12 = nI b := (c1.2.2.1 i 12 hi (by decide) (by decide) (by decide)).trans ((mSet_ne (by omega)).trans hlb)
  generalize hM1 : mSet M 19 i 0 (M.1 19 i 0 - 1) = M1 at c1 hsp hok
  generalize hS1 : gI S (7, i, 0) 9 (M.1 19 i 0 - 1) = S1 at c1 f1 l12
  have r9 : S1.1 (7, i, 0) 9 = M.1 19 i 0 - 1 := by rw [← hS1]; exact if_pos ⟨rfl, rfl⟩
  refine gz_aload_n (pc := 0) cx qd_N_restOrProbe_0 rfl rfl ?_
  refine gz_dup (pc := 1) cx qd_N_restOrProbe_1 ?_
  refine gz_getV (pc := 2) cx qf_N_56 qd_N_restOrProbe_2 (gm_N (by assumption)) rfl rfl e9 ?_
  refine gz_iconst (v := 1) (pc := 5) cx qd_N_restOrProbe_5 (by decide) ?_
  refine gz_isub (pc := 6) cx qd_N_restOrProbe_6 ?_
  refine gz_putI (pc := 7) cx qp_N_56 qd_N_restOrProbe_7 (gm_N (by assumption)) rfl rfl ⟨rfl, rfl⟩ (fun h => nomatch h) ?_
  rw [hS1]
  refine gz_aload_n (pc := 10) cx qd_N_restOrProbe_10 rfl rfl ?_
  refine gz_getV (pc := 11) cx qf_N_56 qd_N_restOrProbe_11 (gm_N (by assumption)) rfl rfl r9 ?_
  refine gz_if_le (tgt := 18) (pc := 14) cx qd_N_restOrProbe_14 (by decide) (fun h14 => ?_) (fun h14 => ?_)
  · refine gz_aload_n (pc := 18) cx qd_N_restOrProbe_18 rfl rfl ?_
    refine gz_aload_n (pc := 19) cx qd_N_restOrProbe_19 rfl rfl ?_
    refine gz_getV (pc := 20) cx qf_N_65 qd_N_restOrProbe_20 (gm_N (by assumption)) rfl rfl l12 ?_
    refine gz_iconst (v := 2) (pc := 23) cx qd_N_restOrProbe_23 (by decide) ?_
    refine gz_callV (pc := 24) cx qv_N_225 qd_N_restOrProbe_24 (gc_N_nextBehind hi hb c1) (by decide) rfl (gm_N (by assumption)) rfl rfl rfl rfl (Nat.le_of_ble_eq_true rfl) ⟨Nat.zero_le _, Nat.zero_le _⟩ ?_
    rintro _ S' ⟨rfl, hS'⟩
    subst hS'
    rw [hok]
    cases hn : mNext G.1 b (mOkS M i 2) with
    | none =>
      refine gz_istore_n (pc := 27) cx qd_N_restOrProbe_27 rfl (Nat.le_of_ble_eq_true rfl) ?_
      refine gz_iload_n (pc := 28) cx qd_N_restOrProbe_28 rfl rfl ?_
      refine gz_iconst (v := -1) (pc := 29) cx qd_N_restOrProbe_29 (by decide) ?_
      refine gz_icmp_ne (tgt := 39) (pc := 30) cx qd_N_restOrProbe_30 (by decide) (fun h30 => absurd rfl h30) (fun _ => ?_)
      refine gz_aload_n (pc := 33) cx qd_N_restOrProbe_33 rfl rfl ?_
      refine gz_iconst (v := 3) (pc := 34) cx qd_N_restOrProbe_34 (by decide) ?_
      refine gz_putI (pc := 35) cx qp_N_56 qd_N_restOrProbe_35 (gm_N (by assumption)) rfl rfl ⟨rfl, rfl⟩ (fun h => nomatch h) ?_
      refine gz_return (pc := 38) cx hr qd_N_restOrProbe_38 ?_
      obtain ⟨c2, f2⟩ := c1.N (i := i) (f := 9) (by decide) (by decide) (by decide) (3)
      refine ⟨rfl, ?_, f1.tr f2⟩
      rw [hsp, if_pos h14, hn]
      exact c2
    | some m =>
      have hmn := (mNextF_lt (by omega) hn).1
      refine gz_istore_n (pc := 27) cx qd_N_restOrProbe_27 rfl (Nat.le_of_ble_eq_true rfl) ?_
      refine gz_iload_n (pc := 28) cx qd_N_restOrProbe_28 rfl rfl ?_
      refine gz_iconst (v := -1) (pc := 29) cx qd_N_restOrProbe_29 (by decide) ?_
      refine gz_icmp_ne (tgt := 39) (pc := 30) cx qd_N_restOrProbe_30 (by decide) (fun _ => ?_) (fun h30 => absurd h30 (g_nm1 (by omega)))
      refine gz_aload_n (pc := 39) cx qd_N_restOrProbe_39 rfl rfl ?_
      refine gz_iload_n (pc := 40) cx qd_N_restOrProbe_40 rfl rfl ?_
      refine gz_putI (pc := 41) cx qp_N_62 qd_N_restOrProbe_41 (gm_N (by assumption)) rfl rfl ⟨rfl, rfl⟩ (fun h => nomatch h) ?_
      refine gz_aload_n (pc := 44) cx qd_N_restOrProbe_44 rfl rfl ?_
      refine gz_iload_n (pc := 45) cx qd_N_restOrProbe_45 rfl rfl ?_
      refine gz_putI (pc := 46) cx qp_N_65 qd_N_restOrProbe_46 (gm_N (by assumption)) rfl rfl ⟨rfl, rfl⟩ (fun h => nomatch h) ?_
      refine gz_aload_n (pc := 49) cx qd_N_restOrProbe_49 rfl rfl ?_
      refine gz_dup (pc := 50) cx qd_N_restOrProbe_50 ?_
      obtain ⟨c2, f2⟩ := c1.N (i := i) (f := 11) (by decide) (by decide) (by decide) (nI m)
      obtain ⟨c3, f3⟩ := c2.N (i := i) (f := 12) (by decide) (by decide) (by decide) (nI m)
      have n10 := (c3.2.2.1 i 10 hi (by decide) (by decide) (by decide)).trans ((mSet_ne (by omega)).trans (mSet_ne (by omega) : _ = M1.1 20 i 0))
      refine gz_getV (pc := 51) cx qf_N_59 qd_N_restOrProbe_51 (gm_N (by assumption)) rfl rfl n10 ?_
      refine gz_iconst (v := 1) (pc := 54) cx qd_N_restOrProbe_54 (by decide) ?_
      refine gz_iadd (pc := 55) cx qd_N_restOrProbe_55 ?_
      refine gz_putI (pc := 56) cx qp_N_59 qd_N_restOrProbe_56 (gm_N (by assumption)) rfl rfl ⟨rfl, rfl⟩ (fun h => nomatch h) ?_
      refine gz_aload_n (pc := 59) cx qd_N_restOrProbe_59 rfl rfl ?_
      refine gz_iconst (v := 0) (pc := 60) cx qd_N_restOrProbe_60 (by decide) ?_
      refine gz_putI (pc := 61) cx qp_N_68 qd_N_restOrProbe_61 (gm_N (by assumption)) rfl rfl ⟨rfl, rfl⟩ (fun h => nomatch h) ?_
      refine gz_aload_n (pc := 64) cx qd_N_restOrProbe_64 rfl rfl ?_
      refine gz_iconst (v := 0) (pc := 65) cx qd_N_restOrProbe_65 (by decide) ?_
      refine gz_putI (pc := 66) cx qp_N_71 qd_N_restOrProbe_66 (gm_N (by assumption)) rfl rfl ⟨by decide, by decide⟩ (fun h => nomatch h) ?_
      refine gz_aload_n (pc := 69) cx qd_N_restOrProbe_69 rfl rfl ?_
      refine gz_iconst (v := 0) (pc := 70) cx qd_N_restOrProbe_70 (by decide) ?_
      refine gz_putI (pc := 71) cx qp_N_74 qd_N_restOrProbe_71 (gm_N (by assumption)) rfl rfl ⟨rfl, rfl⟩ (fun h => nomatch h) ?_
      refine gz_aload_n (pc := 74) cx qd_N_restOrProbe_74 rfl rfl ?_
      refine gz_iconst (v := 0) (pc := 75) cx qd_N_restOrProbe_75 (by decide) ?_
      refine gz_putI (pc := 76) cx qp_N_77 qd_N_restOrProbe_76 (gm_N (by assumption)) rfl rfl ⟨rfl, rfl⟩ (fun h => nomatch h) ?_
      obtain ⟨c4, f4⟩ := c3.N (i := i) (f := 10) (by decide) (by decide) (by decide) (M1.1 20 i 0 + 1)
      obtain ⟨c5, f5⟩ := c4.N (i := i) (f := 13) (by decide) (by decide) (by decide) (0)
      obtain ⟨c6, f6⟩ := c5.N (i := i) (f := 14) (by decide) (by decide) (by decide) (0)
      obtain ⟨c7, f7⟩ := c6.N (i := i) (f := 15) (by decide) (by decide) (by decide) (0)
      obtain ⟨c8, f8⟩ := c7.N (i := i) (f := 16) (by decide) (by decide) (by decide) (0)
      have nid := (c8.1.2.2.2.1 i hi).1
      have n83 := (c8.2.2.1 i 10 hi (by decide) (by decide) (by decide)).trans ((mSet_ne (by omega)).trans ((mSet_ne (by omega)).trans ((mSet_ne (by omega)).trans ((mSet_ne (by omega)).trans (mSet_eq : _ = M1.1 20 i 0 + 1)))))
      refine gz_aload_n (pc := 79) cx qd_N_restOrProbe_79 rfl rfl ?_
      refine gz_iconst (v := 1) (pc := 80) cx qd_N_restOrProbe_80 (by decide) ?_
      refine gz_iload_n (pc := 81) cx qd_N_restOrProbe_81 rfl rfl ?_
      refine gz_aload_n (pc := 82) cx qd_N_restOrProbe_82 rfl rfl ?_
      refine gz_getV (pc := 83) cx qf_N_59 qd_N_restOrProbe_83 (gm_N (by assumption)) rfl rfl n83 ?_
      refine gz_aload_n (pc := 86) cx qd_N_restOrProbe_86 rfl rfl ?_
      refine gz_getV (pc := 87) cx qf_N_17 qd_N_restOrProbe_87 (gm_N (by assumption)) rfl rfl nid ?_
      refine gz_iload_n (pc := 90) cx qd_N_restOrProbe_90 rfl rfl ?_
      refine gz_callV (pc := 91) cx qv_N_89 qd_N_restOrProbe_91 (gc_send hi c8 (Or.inl rfl)) (by decide) rfl (gm_N (by assumption)) rfl rfl rfl rfl (Nat.le_of_ble_eq_true rfl) ⟨Nat.zero_le _, Nat.zero_le _⟩ ?_
      rintro _ S' ⟨rfl, c9, f9⟩
      refine gz_return (pc := 94) cx hr qd_N_restOrProbe_94 ?_
      refine ⟨rfl, ?_, (((((((f1.tr f2).tr f3).tr f4).tr f5).tr f6).tr f7).tr f8).tr f9⟩
      rw [hsp, if_pos h14, hn]
      exact c9
  · refine gz_return (pc := 17) cx hr qd_N_restOrProbe_17 ?_
    refine ⟨rfl, ?_, f1⟩
    rw [hsp, if_neg h14]
    exact c1
theorem gc_N_askOthers {G : gG} {la : Launch} {M : mM} {i0 : Nat} {kc : Option (Nat × List Int32)} {S : gS} {i pr : Nat} (hi : i < G.1) (h : CR G M 0 i0 kc S) (hp : pr < G.1) (hpr : M.1 21 i 0 = nI pr) : gM G la qy_N_askOthers qw_N_askOthers 3 0 0 (gTt G) (gTt G) [.inr (some (7, i, 0))] S (fun v S' => v = none ∧ CR G (mAskF G.1 i (G.1 - 1) 1 M) 0 i0 kc S' ∧ gFr S S') := by
  refine gM_of (cc := qc_N_askOthers) (maxL := 3) (by decide) rfl (Nat.le_of_ble_eq_true rfl) ?_
  intro E cx hr hnm hcz hsz hEl
  subst hEl
  have h8 := h.1.2.1
  have h2 := h.1.2.2.1
  suffices hh : ∀ rem k Mk Sk, k + rem = G.1 → CR G Mk 0 i0 kc Sk → gFr S Sk → Mk.1 21 i 0 = nI pr → mAskF G.1 i (G.1 - 1) 1 M = mAskF G.1 i rem k Mk → gZ G E 0 0 (gEnd G E 0 0 (gTt G) (fun v S' => v = none ∧ CR G (mAskF G.1 i (G.1 - 1) 1 M) 0 i0 kc S' ∧ gFr S S')) (gTt G) 2 [some (.inr (some (7, i, 0))), some (.inl (nI k)), none] [] Sk by
    refine gz_iconst (v := 1) (pc := 0) cx qd_N_askOthers_0 (by decide) ?_
    refine gz_istore_n (pc := 1) cx qd_N_askOthers_1 rfl (Nat.le_of_ble_eq_true rfl) ?_
    exact hh (G.1 - 1) 1 M S (by omega) h gFr.rf hpr rfl
  intro rem
  induction rem with
  | zero =>
    intro k Mk Sk hk hc hf hpk he
    obtain rfl : k = G.1 := by omega
    obtain ⟨hid, hcnt⟩ := hc.1.2.2.2.1 i hi
    refine gz_iload_n (pc := 2) cx qd_N_askOthers_2 rfl rfl ?_
    refine gz_aload_n (pc := 3) cx qd_N_askOthers_3 rfl rfl ?_
    refine gz_getV (pc := 4) cx qf_N_21 qd_N_askOthers_4 (gm_N (by assumption)) rfl rfl hcnt ?_
    refine gz_icmp_ge (tgt := 85) (pc := 7) cx qd_N_askOthers_7 (by decide) (fun _ => ?_) (fun h7 => absurd (Int32.le_refl _) h7)
    refine gz_return (pc := 85) cx hr qd_N_askOthers_85 ?_
    exact ⟨rfl, by rw [he]; exact hc, hf⟩
  | succ rem ih =>
    intro k Mk Sk hk hc hf hpk he
    obtain ⟨hid, hcnt⟩ := hc.1.2.2.2.1 i hi
    have hst := hc.1.1
    have e15 : Sk.1 (7, i, 0) 15 = Mk.1 25 i 0 := hc.2.2.1 i 15 hi (by decide) (by decide) (by decide)
    have e11 : Sk.1 (7, i, 0) 11 = Mk.1 21 i 0 := hc.2.2.1 i 11 hi (by decide) (by decide) (by decide)
    have e10 : Sk.1 (7, i, 0) 10 = Mk.1 20 i 0 := hc.2.2.1 i 10 hi (by decide) (by decide) (by decide)
    have hmn : (pr + k) % G.1 < G.1 := Nat.mod_lt _ (by omega)
    have e0 : Sk.1 (9, i, (pr + k) % G.1) 0 = Mk.1 0 i ((pr + k) % G.1) := hc.2.1 i _ 0 hi hmn (by decide)
    have hmi : nI ((pr + k) % G.1) = nI i ↔ (pr + k) % G.1 = i := nI_eq (by omega) (by omega)
    have hcl : (Mk.1 21 i 0).toNatClampNeg = pr := by rw [hpk]; exact nI_clamp (by omega)
    rw [mAskF, hcl] at he
    refine gz_iload_n (pc := 2) cx qd_N_askOthers_2 rfl rfl ?_
    refine gz_aload_n (pc := 3) cx qd_N_askOthers_3 rfl rfl ?_
    refine gz_getV (pc := 4) cx qf_N_21 qd_N_askOthers_4 (gm_N (by assumption)) rfl rfl hcnt ?_
    refine gz_icmp_ge (tgt := 85) (pc := 7) cx qd_N_askOthers_7 (by decide) (fun h7 => absurd h7 (nI_ge (by omega) (by omega))) (fun _ => ?_)
    refine gz_aload_n (pc := 10) cx qd_N_askOthers_10 rfl rfl ?_
    refine gz_getV (pc := 11) cx qf_N_74 qd_N_askOthers_11 (gm_N (by assumption)) rfl rfl e15 ?_
    refine gz_iconst (v := 2) (pc := 14) cx qd_N_askOthers_14 (by decide) ?_
    refine gz_icmp_ge (tgt := 85) (pc := 15) cx qd_N_askOthers_15 (by decide) (fun h15 => ?_) (fun h15 => ?_)
    · refine gz_return (pc := 85) cx hr qd_N_askOthers_85 ?_
      rw [if_pos h15] at he
      exact ⟨rfl, by rw [he]; exact hc, hf⟩
    · refine gz_aload_n (pc := 18) cx qd_N_askOthers_18 rfl rfl ?_
      refine gz_getV (pc := 19) cx qf_N_62 qd_N_askOthers_19 (gm_N (by assumption)) rfl rfl (e11.trans hpk) ?_
      refine gz_iload_n (pc := 22) cx qd_N_askOthers_22 rfl rfl ?_
      refine gz_iadd (pc := 23) cx qd_N_askOthers_23 ?_
      refine gz_aload_n (pc := 24) cx qd_N_askOthers_24 rfl rfl ?_
      refine gz_getV (pc := 25) cx qf_N_21 qd_N_askOthers_25 (gm_N (by assumption)) rfl rfl hcnt ?_
      refine gz_irem (pc := 28) cx qd_N_askOthers_28 (nI_ne0 (by omega) (by omega)) ?_
      rw [nI_add, pk_rem (by omega) (by omega) (by omega)]
      refine gz_istore_n (pc := 29) cx qd_N_askOthers_29 rfl (Nat.le_of_ble_eq_true rfl) ?_
      refine gz_iload_n (pc := 30) cx qd_N_askOthers_30 rfl rfl ?_
      refine gz_aload_n (pc := 31) cx qd_N_askOthers_31 rfl rfl ?_
      refine gz_getV (pc := 32) cx qf_N_17 qd_N_askOthers_32 (gm_N (by assumption)) rfl rfl hid ?_
      refine gz_icmp_eq (tgt := 79) (pc := 35) cx qd_N_askOthers_35 (by decide) (fun h35 => ?_) (fun h35 => ?_)
      · refine gz_iinc (pc := 79) cx qd_N_askOthers_79 rfl (g_inc k) ?_
        refine gz_goto (tgt := 2) (pc := 82) cx qd_N_askOthers_82 (by decide) ?_
        refine gz_weak (lv' := [some (.inr (some (7, i, 0))), some (.inl (nI (k + 1))), none]) ⟨rfl, rfl, trivial⟩ ?_
        rw [if_neg h15, if_neg (fun q => q.1 (hmi.mp h35))] at he
        exact ih (k + 1) Mk Sk (by omega) hc hf hpk he
      · refine gz_aload_n (pc := 38) cx qd_N_askOthers_38 rfl rfl ?_
        refine gz_getR (pc := 39) cx qf_N_30 qd_N_askOthers_39 (gm_N (by assumption)) rfl rfl (hst _ _ _ rfl) ?_
        refine gz_iload_n (pc := 42) cx qd_N_askOthers_42 rfl rfl ?_
        refine gz_aaload (pc := 43) cx qd_N_askOthers_43 (by first | exact gm_tb (by assumption) | exact gm_ns | exact gm_cf | exact gm_w (by assumption) | exact gm_nw (by assumption) | exact gm_rs (by assumption) | exact gm_M (by assumption) | exact gm_R (by assumption) (by assumption) | exact gm_za (by decide) (by decide)) rfl ⟨by decide, by decide, rfl⟩ (hst _ _ _ rfl) rfl (by assumption) (by omega) ?_
        refine gz_getV (pc := 44) cx qf_N_86 qd_N_askOthers_44 (gm_E (by assumption) (by assumption)) rfl rfl e0 ?_
        refine gz_iconst (v := 1) (pc := 47) cx qd_N_askOthers_47 (by decide) ?_
        refine gz_icmp_ne (tgt := 79) (pc := 48) cx qd_N_askOthers_48 (by decide) (fun h48 => ?_) (fun h48 => ?_)
        · refine gz_iinc (pc := 79) cx qd_N_askOthers_79 rfl (g_inc k) ?_
          refine gz_goto (tgt := 2) (pc := 82) cx qd_N_askOthers_82 (by decide) ?_
          refine gz_weak (lv' := [some (.inr (some (7, i, 0))), some (.inl (nI (k + 1))), none]) ⟨rfl, rfl, trivial⟩ ?_
          rw [if_neg h15, if_neg (fun q => h48 q.2)] at he
          exact ih (k + 1) Mk Sk (by omega) hc hf hpk he
        · refine gz_aload_n (pc := 51) cx qd_N_askOthers_51 rfl rfl ?_
          refine gz_iconst (v := 3) (pc := 52) cx qd_N_askOthers_52 (by decide) ?_
          refine gz_iload_n (pc := 53) cx qd_N_askOthers_53 rfl rfl ?_
          refine gz_aload_n (pc := 54) cx qd_N_askOthers_54 rfl rfl ?_
          refine gz_getV (pc := 55) cx qf_N_59 qd_N_askOthers_55 (gm_N (by assumption)) rfl rfl e10 ?_
          refine gz_aload_n (pc := 58) cx qd_N_askOthers_58 rfl rfl ?_
          refine gz_getV (pc := 59) cx qf_N_17 qd_N_askOthers_59 (gm_N (by assumption)) rfl rfl hid ?_
          refine gz_aload_n (pc := 62) cx qd_N_askOthers_62 rfl rfl ?_
          refine gz_getV (pc := 63) cx qf_N_62 qd_N_askOthers_63 (gm_N (by assumption)) rfl rfl e11 ?_
          refine gz_callV (pc := 66) cx qv_N_89 qd_N_askOthers_66 (gc_send hi hc (Or.inl rfl)) (by decide) rfl (gm_N (by assumption)) rfl rfl rfl rfl (Nat.le_of_ble_eq_true rfl) ⟨Nat.zero_le _, Nat.zero_le _⟩ ?_
          rintro _ S' ⟨rfl, c2, f2⟩
          have d15 := (c2.2.2.1 i 15 hi (by decide) (by decide) (by decide)).trans (mSend_1 (by decide) : _ = Mk.1 25 i 0)
          refine gz_aload_n (pc := 69) cx qd_N_askOthers_69 rfl rfl ?_
          refine gz_dup (pc := 70) cx qd_N_askOthers_70 ?_
          refine gz_getV (pc := 71) cx qf_N_74 qd_N_askOthers_71 (gm_N (by assumption)) rfl rfl d15 ?_
          refine gz_iconst (v := 1) (pc := 74) cx qd_N_askOthers_74 (by decide) ?_
          refine gz_iadd (pc := 75) cx qd_N_askOthers_75 ?_
          refine gz_putI (pc := 76) cx qp_N_74 qd_N_askOthers_76 (gm_N (by assumption)) rfl rfl ⟨rfl, rfl⟩ (fun h => nomatch h) ?_
          refine gz_iinc (pc := 79) cx qd_N_askOthers_79 rfl (g_inc k) ?_
          refine gz_goto (tgt := 2) (pc := 82) cx qd_N_askOthers_82 (by decide) ?_
          refine gz_weak (lv' := [some (.inr (some (7, i, 0))), some (.inl (nI (k + 1))), none]) ⟨rfl, rfl, trivial⟩ ?_
          rw [if_neg h15, if_pos ⟨fun q => h35 (hmi.mpr q), h48⟩] at he
          obtain ⟨c3, f3⟩ := c2.N (i := i) (f := 15) (by decide) (by decide) (by decide) (Mk.1 25 i 0 + 1)
          exact ih (k + 1) _ _ (by omega) c3 ((hf.tr f2).tr f3) ((mSet_ne (by omega)).trans ((mSend_1 (by decide)).trans hpk)) he
theorem gc_N_endProbe {G : gG} {la : Launch} {M : mM} {i0 : Nat} {kc : Option (Nat × List Int32)} {S : gS} {i pr : Nat} {w : Int32} (hi : i < G.1) (h : CR G M 0 i0 kc S) (hp : pr < G.1) (hpr : M.1 21 i 0 = nI pr) : gM G la qy_N_endProbe qw_N_endProbe 3 0 0 (gTt G) (gTt G) [.inr (some (7, i, 0)), .inl w] S (fun v S' => v = none ∧ CR G (mEnd M i w) 0 i0 kc S' ∧ gFr S S') := by
  refine gM_of (cc := qc_N_endProbe) (maxL := 3) (by decide) rfl (Nat.le_of_ble_eq_true rfl) ?_
  intro E cx hr hnm hcz hsz hEl
  subst hEl
  have h8 := h.1.2.1
  have hst := h.1.1
  have e14 : S.1 (7, i, 0) 14 = M.1 24 i 0 := h.2.2.1 i 14 hi (by decide) (by decide) (by decide)
  have e15 : S.1 (7, i, 0) 15 = M.1 25 i 0 := h.2.2.1 i 15 hi (by decide) (by decide) (by decide)
  have e16 : S.1 (7, i, 0) 16 = M.1 26 i 0 := h.2.2.1 i 16 hi (by decide) (by decide) (by decide)
  have e7 : S.1 (7, i, 0) 7 = M.1 17 i 0 := h.2.2.1 i 7 hi (by decide) (by decide) (by decide)
  have e11 : S.1 (7, i, 0) 11 = M.1 21 i 0 := h.2.2.1 i 11 hi (by decide) (by decide) (by decide)
  have hcl : (M.1 21 i 0).toNatClampNeg = pr := by rw [hpr]; exact nI_clamp (by omega)
  have tail : ∀ M1 S1, CR G M1 0 i0 kc S1 → gFr S S1 → mEnd M i w = mSet (mSet (mSet (mSet M1 21 i 0 (-1)) 23 i 0 0) 24 i 0 0) 19 i 0 (1 + M1.1 17 i 0) → gZ G E 0 0 (gEnd G E 0 0 (gTt G) (fun v S' => v = none ∧ CR G (mEnd M i w) 0 i0 kc S' ∧ gFr S S')) (gTt G) 83 [some (.inr (some (7, i, 0))), some (.inl w), none] [] S1 := by
    intro M1 S1 c1 f1 he
    refine gz_aload_n (pc := 83) cx qd_N_endProbe_83 rfl rfl ?_
    refine gz_iconst (v := -1) (pc := 84) cx qd_N_endProbe_84 (by decide) ?_
    refine gz_putI (pc := 85) cx qp_N_62 qd_N_endProbe_85 (gm_N (by assumption)) rfl rfl ⟨rfl, rfl⟩ (fun h => nomatch h) ?_
    refine gz_aload_n (pc := 88) cx qd_N_endProbe_88 rfl rfl ?_
    refine gz_iconst (v := 0) (pc := 89) cx qd_N_endProbe_89 (by decide) ?_
    refine gz_putI (pc := 90) cx qp_N_68 qd_N_endProbe_90 (gm_N (by assumption)) rfl rfl ⟨rfl, rfl⟩ (fun h => nomatch h) ?_
    refine gz_aload_n (pc := 93) cx qd_N_endProbe_93 rfl rfl ?_
    refine gz_iconst (v := 0) (pc := 94) cx qd_N_endProbe_94 (by decide) ?_
    refine gz_putI (pc := 95) cx qp_N_71 qd_N_endProbe_95 (gm_N (by assumption)) rfl rfl ⟨by decide, by decide⟩ (fun h => nomatch h) ?_
    obtain ⟨c2, f2⟩ := c1.N (i := i) (f := 11) (by decide) (by decide) (by decide) (-1)
    obtain ⟨c3, f3⟩ := c2.N (i := i) (f := 13) (by decide) (by decide) (by decide) (0)
    obtain ⟨c4, f4⟩ := c3.N (i := i) (f := 14) (by decide) (by decide) (by decide) (0)
    have d7 := (c4.2.2.1 i 7 hi (by decide) (by decide) (by decide)).trans ((mSet_ne (by omega)).trans ((mSet_ne (by omega)).trans (mSet_ne (by omega) : _ = M1.1 17 i 0)))
    refine gz_aload_n (pc := 98) cx qd_N_endProbe_98 rfl rfl ?_
    refine gz_iconst (v := 1) (pc := 99) cx qd_N_endProbe_99 (by decide) ?_
    refine gz_aload_n (pc := 100) cx qd_N_endProbe_100 rfl rfl ?_
    refine gz_getV (pc := 101) cx qf_N_50 qd_N_endProbe_101 (gm_N (by assumption)) rfl rfl d7 ?_
    refine gz_iadd (pc := 104) cx qd_N_endProbe_104 ?_
    refine gz_putI (pc := 105) cx qp_N_56 qd_N_endProbe_105 (gm_N (by assumption)) rfl rfl ⟨rfl, rfl⟩ (fun h => nomatch h) ?_
    refine gz_return (pc := 108) cx hr qd_N_endProbe_108 ?_
    obtain ⟨c5, f5⟩ := c4.N (i := i) (f := 9) (by decide) (by decide) (by decide) (1 + M1.1 17 i 0)
    exact ⟨rfl, by rw [he]; exact c5, (((f1.tr f2).tr f3).tr f4).tr f5⟩
  refine gz_aload_n (pc := 0) cx qd_N_endProbe_0 rfl rfl ?_
  refine gz_getV (pc := 1) cx qf_N_71 qd_N_endProbe_1 (gm_N (by assumption)) rfl rfl e14 ?_
  refine gz_if_eq (tgt := 24) (pc := 4) cx qd_N_endProbe_4 (by decide) (fun h4 => ?_) (fun h4 => ?_)
  · refine gz_aload_n (pc := 24) cx qd_N_endProbe_24 rfl rfl ?_
    refine gz_aload_n (pc := 25) cx qd_N_endProbe_25 rfl rfl ?_
    refine gz_getV (pc := 26) cx qf_N_74 qd_N_endProbe_26 (gm_N (by assumption)) rfl rfl e15 ?_
    refine gz_if_ne (tgt := 36) (pc := 29) cx qd_N_endProbe_29 (by decide) (fun h29 => ?_) (fun h29 => ?_)
    · refine gz_iconst (v := 0) (pc := 36) cx qd_N_endProbe_36 (by decide) ?_
      refine gz_aload_n (pc := 37) cx qd_N_endProbe_37 rfl rfl ?_
      refine gz_getV (pc := 38) cx qf_N_74 qd_N_endProbe_38 (gm_N (by assumption)) rfl rfl e15 ?_
      refine gz_aload_n (pc := 41) cx qd_N_endProbe_41 rfl rfl ?_
      refine gz_getV (pc := 42) cx qf_N_77 qd_N_endProbe_42 (gm_N (by assumption)) rfl rfl e16 ?_
      refine gz_isub (pc := 45) cx qd_N_endProbe_45 ?_
      refine gz_max (pc := 46) cx qm_N_234 qm_max_s qm_i qm_max_c qd_N_endProbe_46 (by decide) rfl (Nat.le_of_ble_eq_true rfl) ⟨Nat.zero_le _, Nat.zero_le _⟩ ?_
      refine gz_callV (pc := 49) cx qv_N_177 qd_N_endProbe_49 (gc_N_raiseScore hi) (by decide) rfl (gm_N (by assumption)) rfl rfl rfl rfl (Nat.le_of_ble_eq_true rfl) ⟨Nat.zero_le _, Nat.zero_le _⟩ ?_
      rintro _ _ ⟨rfl, rfl⟩
      rw [e7]
      obtain ⟨c1, f1⟩ := h.N (i := i) (f := 7) (by decide) (by decide) (by decide) (mMin4 (M.1 17 i 0 + mMax0 (M.1 25 i 0 - M.1 26 i 0)))
      have d11 := (c1.2.2.1 i 11 hi (by decide) (by decide) (by decide)).trans ((mSet_ne (by omega)).trans hpr)
      have hst := c1.1.1
      have d0 := (c1.2.1 i pr 0 hi hp (by decide)).trans (mSet_ne (by omega) : _ = M.1 0 i pr)
      have d1 := (c1.2.1 i pr 1 hi hp (by decide)).trans (mSet_ne (by omega) : _ = M.1 1 i pr)
      have did := (c1.1.2.2.2.1 i hi).1
      refine gz_aload_n (pc := 52) cx qd_N_endProbe_52 rfl rfl ?_
      refine gz_getR (pc := 53) cx qf_N_30 qd_N_endProbe_53 (gm_N (by assumption)) rfl rfl (hst _ _ _ rfl) ?_
      refine gz_aload_n (pc := 56) cx qd_N_endProbe_56 rfl rfl ?_
      refine gz_getV (pc := 57) cx qf_N_62 qd_N_endProbe_57 (gm_N (by assumption)) rfl rfl d11 ?_
      refine gz_aaload (pc := 60) cx qd_N_endProbe_60 (by first | exact gm_tb (by assumption) | exact gm_ns | exact gm_cf | exact gm_w (by assumption) | exact gm_nw (by assumption) | exact gm_rs (by assumption) | exact gm_M (by assumption) | exact gm_R (by assumption) (by assumption) | exact gm_za (by decide) (by decide)) rfl ⟨by decide, by decide, rfl⟩ (hst _ _ _ rfl) rfl (by assumption) (by omega) ?_
      refine gz_astore_n (pc := 61) cx qd_N_endProbe_61 rfl (Nat.le_of_ble_eq_true rfl) ?_
      refine gz_aload_n (pc := 62) cx qd_N_endProbe_62 rfl rfl ?_
      refine gz_getV (pc := 63) cx qf_N_86 qd_N_endProbe_63 (gm_E (by assumption) (by assumption)) rfl rfl d0 ?_
      refine gz_iconst (v := 1) (pc := 66) cx qd_N_endProbe_66 (by decide) ?_
      refine gz_icmp_ne (tgt := 83) (pc := 67) cx qd_N_endProbe_67 (by decide) (fun h67 => ?_) (fun h67 => ?_)
      · refine gz_weak (lv' := [some (.inr (some (7, i, 0))), some (.inl w), none]) ⟨rfl, rfl, trivial⟩ ?_
        refine tail _ _ c1 f1 ?_
        unfold mEnd
        rw [hcl]
        simp only []
        rw [if_pos h4, if_neg h29, if_neg h67]
      · refine gz_aload_n (pc := 70) cx qd_N_endProbe_70 rfl rfl ?_
        refine gz_aload_n (pc := 71) cx qd_N_endProbe_71 rfl rfl ?_
        refine gz_getV (pc := 72) cx qf_N_83 qd_N_endProbe_72 (gm_E (by assumption) (by assumption)) rfl rfl d1 ?_
        refine gz_iload_n (pc := 75) cx qd_N_endProbe_75 rfl rfl ?_
        refine gz_aload_n (pc := 76) cx qd_N_endProbe_76 rfl rfl ?_
        refine gz_getV (pc := 77) cx qf_N_17 qd_N_endProbe_77 (gm_N (by assumption)) rfl rfl did ?_
        refine gz_callV (pc := 80) cx qv_N_168 qd_N_endProbe_80 (gc_E_becomeSuspect hi hp) (by decide) rfl (gm_E (by assumption) (by assumption)) rfl rfl rfl rfl (Nat.le_of_ble_eq_true rfl) ⟨Nat.zero_le _, Nat.zero_le _⟩ ?_
        rintro _ _ ⟨rfl, rfl⟩
        refine gz_weak (lv' := [some (.inr (some (7, i, 0))), some (.inl w), none]) ⟨rfl, rfl, trivial⟩ ?_
        obtain ⟨c2, f2⟩ := c1.become (i := i) (j := pr) 2 (M.1 1 i pr) w
        obtain ⟨c3, f3⟩ := c2.E (i := i) (j := pr) (f := 3) (by decide) (mBit (nI i))
        refine tail _ _ c3 ((f1.tr f2).tr f3) ?_
        unfold mEnd
        rw [hcl]
        simp only []
        rw [if_pos h4, if_neg h29, if_pos h67]
    · refine gz_iconst (v := 1) (pc := 32) cx qd_N_endProbe_32 (by decide) ?_
      refine gz_goto (tgt := 49) (pc := 33) cx qd_N_endProbe_33 (by decide) ?_
      refine gz_callV (pc := 49) cx qv_N_177 qd_N_endProbe_49 (gc_N_raiseScore hi) (by decide) rfl (gm_N (by assumption)) rfl rfl rfl rfl (Nat.le_of_ble_eq_true rfl) ⟨Nat.zero_le _, Nat.zero_le _⟩ ?_
      rintro _ _ ⟨rfl, rfl⟩
      rw [e7]
      obtain ⟨c1, f1⟩ := h.N (i := i) (f := 7) (by decide) (by decide) (by decide) (mMin4 (M.1 17 i 0 + 1))
      have d11 := (c1.2.2.1 i 11 hi (by decide) (by decide) (by decide)).trans ((mSet_ne (by omega)).trans hpr)
      have hst := c1.1.1
      have d0 := (c1.2.1 i pr 0 hi hp (by decide)).trans (mSet_ne (by omega) : _ = M.1 0 i pr)
      have d1 := (c1.2.1 i pr 1 hi hp (by decide)).trans (mSet_ne (by omega) : _ = M.1 1 i pr)
      have did := (c1.1.2.2.2.1 i hi).1
      refine gz_aload_n (pc := 52) cx qd_N_endProbe_52 rfl rfl ?_
      refine gz_getR (pc := 53) cx qf_N_30 qd_N_endProbe_53 (gm_N (by assumption)) rfl rfl (hst _ _ _ rfl) ?_
      refine gz_aload_n (pc := 56) cx qd_N_endProbe_56 rfl rfl ?_
      refine gz_getV (pc := 57) cx qf_N_62 qd_N_endProbe_57 (gm_N (by assumption)) rfl rfl d11 ?_
      refine gz_aaload (pc := 60) cx qd_N_endProbe_60 (by first | exact gm_tb (by assumption) | exact gm_ns | exact gm_cf | exact gm_w (by assumption) | exact gm_nw (by assumption) | exact gm_rs (by assumption) | exact gm_M (by assumption) | exact gm_R (by assumption) (by assumption) | exact gm_za (by decide) (by decide)) rfl ⟨by decide, by decide, rfl⟩ (hst _ _ _ rfl) rfl (by assumption) (by omega) ?_
      refine gz_astore_n (pc := 61) cx qd_N_endProbe_61 rfl (Nat.le_of_ble_eq_true rfl) ?_
      refine gz_aload_n (pc := 62) cx qd_N_endProbe_62 rfl rfl ?_
      refine gz_getV (pc := 63) cx qf_N_86 qd_N_endProbe_63 (gm_E (by assumption) (by assumption)) rfl rfl d0 ?_
      refine gz_iconst (v := 1) (pc := 66) cx qd_N_endProbe_66 (by decide) ?_
      refine gz_icmp_ne (tgt := 83) (pc := 67) cx qd_N_endProbe_67 (by decide) (fun h67 => ?_) (fun h67 => ?_)
      · refine gz_weak (lv' := [some (.inr (some (7, i, 0))), some (.inl w), none]) ⟨rfl, rfl, trivial⟩ ?_
        refine tail _ _ c1 f1 ?_
        unfold mEnd
        rw [hcl]
        simp only []
        rw [if_pos h4, if_pos h29, if_neg h67]
      · refine gz_aload_n (pc := 70) cx qd_N_endProbe_70 rfl rfl ?_
        refine gz_aload_n (pc := 71) cx qd_N_endProbe_71 rfl rfl ?_
        refine gz_getV (pc := 72) cx qf_N_83 qd_N_endProbe_72 (gm_E (by assumption) (by assumption)) rfl rfl d1 ?_
        refine gz_iload_n (pc := 75) cx qd_N_endProbe_75 rfl rfl ?_
        refine gz_aload_n (pc := 76) cx qd_N_endProbe_76 rfl rfl ?_
        refine gz_getV (pc := 77) cx qf_N_17 qd_N_endProbe_77 (gm_N (by assumption)) rfl rfl did ?_
        refine gz_callV (pc := 80) cx qv_N_168 qd_N_endProbe_80 (gc_E_becomeSuspect hi hp) (by decide) rfl (gm_E (by assumption) (by assumption)) rfl rfl rfl rfl (Nat.le_of_ble_eq_true rfl) ⟨Nat.zero_le _, Nat.zero_le _⟩ ?_
        rintro _ _ ⟨rfl, rfl⟩
        refine gz_weak (lv' := [some (.inr (some (7, i, 0))), some (.inl w), none]) ⟨rfl, rfl, trivial⟩ ?_
        obtain ⟨c2, f2⟩ := c1.become (i := i) (j := pr) 2 (M.1 1 i pr) w
        obtain ⟨c3, f3⟩ := c2.E (i := i) (j := pr) (f := 3) (by decide) (mBit (nI i))
        refine tail _ _ c3 ((f1.tr f2).tr f3) ?_
        unfold mEnd
        rw [hcl]
        simp only []
        rw [if_pos h4, if_pos h29, if_pos h67]
  · refine gz_aload_n (pc := 7) cx qd_N_endProbe_7 rfl rfl ?_
    refine gz_iconst (v := 0) (pc := 8) cx qd_N_endProbe_8 (by decide) ?_
    refine gz_aload_n (pc := 9) cx qd_N_endProbe_9 rfl rfl ?_
    refine gz_getV (pc := 10) cx qf_N_50 qd_N_endProbe_10 (gm_N (by assumption)) rfl rfl e7 ?_
    refine gz_iconst (v := 1) (pc := 13) cx qd_N_endProbe_13 (by decide) ?_
    refine gz_isub (pc := 14) cx qd_N_endProbe_14 ?_
    refine gz_max (pc := 15) cx qm_N_234 qm_max_s qm_i qm_max_c qd_N_endProbe_15 (by decide) rfl (Nat.le_of_ble_eq_true rfl) ⟨Nat.zero_le _, Nat.zero_le _⟩ ?_
    refine gz_putI (pc := 18) cx qp_N_50 qd_N_endProbe_18 (gm_N (by assumption)) rfl rfl ⟨rfl, rfl⟩ (fun h => nomatch h) ?_
    refine gz_goto (tgt := 83) (pc := 21) cx qd_N_endProbe_21 (by decide) ?_
    refine gz_weak (lv' := [some (.inr (some (7, i, 0))), some (.inl w), none]) ⟨rfl, rfl, trivial⟩ ?_
    obtain ⟨c1, f1⟩ := h.N (i := i) (f := 7) (by decide) (by decide) (by decide) (mMax0 (M.1 17 i 0 - 1))
    refine tail _ _ c1 f1 ?_
    unfold mEnd
    rw [hcl]
    simp only []
    rw [if_neg h4]
theorem gc_N_goOnProbing {G : gG} {la : Launch} {M : mM} {i0 : Nat} {kc : Option (Nat × List Int32)} {S : gS} {i pr : Nat} {w : Int32} (hi : i < G.1) (h : CR G M 0 i0 kc S) (hp : pr < G.1) (hpr : M.1 21 i 0 = nI pr) : gM G la qy_N_goOnProbing qw_N_goOnProbing 4 0 0 (gTt G) (gTt G) [.inr (some (7, i, 0)), .inl w] S (fun v S' => v = none ∧ CR G (mGo G.1 M i w) 0 i0 kc S' ∧ gFr S S') := by
  refine gM_of (cc := qc_N_goOnProbing) (maxL := 2) (by decide) rfl (Nat.le_of_ble_eq_true rfl) ?_
  intro E cx hr hnm hcz hsz hEl
  subst hEl
  have h8 := h.1.2.1
  have e13 : S.1 (7, i, 0) 13 = M.1 23 i 0 := h.2.2.1 i 13 hi (by decide) (by decide) (by decide)
  have e14 : S.1 (7, i, 0) 14 = M.1 24 i 0 := h.2.2.1 i 14 hi (by decide) (by decide) (by decide)
  have tail : ∀ M2 S2, CR G M2 0 i0 kc S2 → gFr S S2 → M2.1 23 i 0 = M.1 23 i 0 + 1 → M2.1 21 i 0 = nI pr → (mGo G.1 M i w = if M.1 23 i 0 + 1 < 8 then M2 else mEnd M2 i w) → gZ G E 0 0 (gEnd G E 0 0 (gTt G) (fun v S' => v = none ∧ CR G (mGo G.1 M i w) 0 i0 kc S' ∧ gFr S S')) (gTt G) 29 [some (.inr (some (7, i, 0))), some (.inl w)] [] S2 := by
    intro M2 S2 c2 f2 h23 h21 he
    refine gz_aload_n (pc := 29) cx qd_N_goOnProbing_29 rfl rfl ?_
    refine gz_getV (pc := 30) cx qf_N_68 qd_N_goOnProbing_30 (gm_N (by assumption)) rfl rfl ((c2.2.2.1 i 13 hi (by decide) (by decide) (by decide)).trans h23) ?_
    refine gz_bipush (v := 8) (pc := 33) cx qd_N_goOnProbing_33 (by decide) ?_
    refine gz_icmp_lt (tgt := 43) (pc := 35) cx qd_N_goOnProbing_35 (by decide) (fun h35 => ?_) (fun h35 => ?_)
    · refine gz_return (pc := 43) cx hr qd_N_goOnProbing_43 ?_
      rw [if_pos h35] at he
      exact ⟨rfl, by rw [he]; exact c2, f2⟩
    · refine gz_aload_n (pc := 38) cx qd_N_goOnProbing_38 rfl rfl ?_
      refine gz_iload_n (pc := 39) cx qd_N_goOnProbing_39 rfl rfl ?_
      refine gz_callV (pc := 40) cx qv_N_231 qd_N_goOnProbing_40 (gc_N_endProbe hi c2 hp h21) (by decide) rfl (gm_N (by assumption)) rfl rfl rfl rfl (Nat.le_of_ble_eq_true rfl) ⟨Nat.zero_le _, Nat.zero_le _⟩ ?_
      rintro _ S' ⟨rfl, c3, f3⟩
      refine gz_return (pc := 43) cx hr qd_N_goOnProbing_43 ?_
      rw [if_neg h35] at he
      exact ⟨rfl, by rw [he]; exact c3, f2.tr f3⟩
  refine gz_aload_n (pc := 0) cx qd_N_goOnProbing_0 rfl rfl ?_
  refine gz_dup (pc := 1) cx qd_N_goOnProbing_1 ?_
  refine gz_getV (pc := 2) cx qf_N_68 qd_N_goOnProbing_2 (gm_N (by assumption)) rfl rfl e13 ?_
  refine gz_iconst (v := 1) (pc := 5) cx qd_N_goOnProbing_5 (by decide) ?_
  refine gz_iadd (pc := 6) cx qd_N_goOnProbing_6 ?_
  refine gz_putI (pc := 7) cx qp_N_68 qd_N_goOnProbing_7 (gm_N (by assumption)) rfl rfl ⟨rfl, rfl⟩ (fun h => nomatch h) ?_
  obtain ⟨c1, f1⟩ := h.N (i := i) (f := 13) (by decide) (by decide) (by decide) (M.1 23 i 0 + 1)
  have d14 := (c1.2.2.1 i 14 hi (by decide) (by decide) (by decide)).trans (mSet_ne (by omega) : _ = M.1 24 i 0)
  have d21 : (mSet M 23 i 0 (M.1 23 i 0 + 1)).1 21 i 0 = nI pr := (mSet_ne (by omega)).trans hpr
  refine gz_aload_n (pc := 10) cx qd_N_goOnProbing_10 rfl rfl ?_
  refine gz_getV (pc := 11) cx qf_N_68 qd_N_goOnProbing_11 (gm_N (by assumption)) rfl rfl (if_pos ⟨rfl, rfl⟩ : _ = M.1 23 i 0 + 1) ?_
  refine gz_iconst (v := 3) (pc := 14) cx qd_N_goOnProbing_14 (by decide) ?_
  refine gz_icmp_ne (tgt := 29) (pc := 15) cx qd_N_goOnProbing_15 (by decide) (fun h15 => ?_) (fun h15 => ?_)
  · refine tail _ _ c1 f1 mSet_eq d21 ?_
    unfold mGo
    simp only []
    rw [if_neg (show ¬ (M.1 23 i 0 + 1 = 3 ∧ M.1 24 i 0 = 0) from fun q => h15 q.1)]
  · refine gz_aload_n (pc := 18) cx qd_N_goOnProbing_18 rfl rfl ?_
    refine gz_getV (pc := 19) cx qf_N_71 qd_N_goOnProbing_19 (gm_N (by assumption)) rfl rfl d14 ?_
    refine gz_if_ne (tgt := 29) (pc := 22) cx qd_N_goOnProbing_22 (by decide) (fun h22 => ?_) (fun h22 => ?_)
    · refine tail _ _ c1 f1 mSet_eq d21 ?_
      unfold mGo
      simp only []
      rw [if_neg (show ¬ (M.1 23 i 0 + 1 = 3 ∧ M.1 24 i 0 = 0) from fun q => h22 q.2)]
    · refine gz_aload_n (pc := 25) cx qd_N_goOnProbing_25 rfl rfl ?_
      refine gz_callV (pc := 26) cx qv_N_228 qd_N_goOnProbing_26 (gc_N_askOthers hi c1 hp d21) (by decide) rfl (gm_N (by assumption)) rfl rfl rfl rfl (Nat.le_of_ble_eq_true rfl) ⟨Nat.zero_le _, Nat.zero_le _⟩ ?_
      rintro _ S' ⟨rfl, c2, f2⟩
      refine tail _ _ c2 (f1.tr f2) ((mAskF_1 (by decide) (by decide)).trans mSet_eq) ((mAskF_1 (by decide) (by decide)).trans d21) ?_
      unfold mGo
      simp only []
      rw [if_pos (show M.1 23 i 0 + 1 = 3 ∧ M.1 24 i 0 = 0 from ⟨h15, h22⟩)]
theorem gc_N_syncWithNext {G : gG} {la : Launch} {M : mM} {i0 : Nat} {kc : Option (Nat × List Int32)} {S : gS} {i : Nat} (hi : i < G.1) (h : CR G M 0 i0 kc S) (hni : isN G.1 (M.1 27 i 0)) : gM G la qy_N_syncWithNext qw_N_syncWithNext 3 0 0 (gTt G) (gTt G) [.inr (some (7, i, 0))] S (fun v S' => v = none ∧ CR G (mSync G.1 M i) 0 i0 kc S' ∧ gFr S S') := by
  refine gM_of (cc := qc_N_syncWithNext) (maxL := 2) (by decide) rfl (Nat.le_of_ble_eq_true rfl) ?_
  intro E cx hr hnm hcz hsz hEl
  subst hEl
  have h8 := h.1.2.1
  obtain ⟨b, hb, hlb⟩ := hni
  have e17 : S.1 (7, i, 0) 17 = M.1 27 i 0 := h.2.2.1 i 17 hi (by decide) (by decide) (by decide)
  have hsp : mSync G.1 M i = (match mNext G.1 b (mOkS M i 1) with
      | none => M
      | some m => mSend G.1 (mSet M 27 i 0 (nI m)) 6 i (nI m) 0 0 0) := by
    unfold mSync
    rw [hlb, nI_clamp (by omega)]
    rfl
  refine gz_aload_n (pc := 0) cx qd_N_syncWithNext_0 rfl rfl ?_
  refine gz_aload_n (pc := 1) cx qd_N_syncWithNext_1 rfl rfl ?_
  refine gz_getV (pc := 2) cx qf_N_80 qd_N_syncWithNext_2 (gm_N (by assumption)) rfl rfl (e17.trans hlb) ?_
  refine gz_iconst (v := 1) (pc := 5) cx qd_N_syncWithNext_5 (by decide) ?_
  refine gz_callV (pc := 6) cx qv_N_225 qd_N_syncWithNext_6 (gc_N_nextBehind hi hb h) (by decide) rfl (gm_N (by assumption)) rfl rfl rfl rfl (Nat.le_of_ble_eq_true rfl) ⟨Nat.zero_le _, Nat.zero_le _⟩ ?_
  rintro _ S' ⟨rfl, hS'⟩
  subst hS'
  cases hn : mNext G.1 b (mOkS M i 1) with
  | none =>
    refine gz_istore_n (pc := 9) cx qd_N_syncWithNext_9 rfl (Nat.le_of_ble_eq_true rfl) ?_
    refine gz_iload_n (pc := 10) cx qd_N_syncWithNext_10 rfl rfl ?_
    refine gz_iconst (v := -1) (pc := 11) cx qd_N_syncWithNext_11 (by decide) ?_
    refine gz_icmp_eq (tgt := 30) (pc := 12) cx qd_N_syncWithNext_12 (by decide) (fun _ => ?_) (fun h12 => absurd rfl h12)
    refine gz_return (pc := 30) cx hr qd_N_syncWithNext_30 ?_
    exact ⟨rfl, by rw [hsp, hn]; exact h, gFr.rf⟩
  | some m =>
    have hmn := (mNextF_lt (by omega) hn).1
    refine gz_istore_n (pc := 9) cx qd_N_syncWithNext_9 rfl (Nat.le_of_ble_eq_true rfl) ?_
    refine gz_iload_n (pc := 10) cx qd_N_syncWithNext_10 rfl rfl ?_
    refine gz_iconst (v := -1) (pc := 11) cx qd_N_syncWithNext_11 (by decide) ?_
    refine gz_icmp_eq (tgt := 30) (pc := 12) cx qd_N_syncWithNext_12 (by decide) (fun h12 => absurd h12 (g_nm1 (by omega))) (fun _ => ?_)
    refine gz_aload_n (pc := 15) cx qd_N_syncWithNext_15 rfl rfl ?_
    refine gz_iload_n (pc := 16) cx qd_N_syncWithNext_16 rfl rfl ?_
    refine gz_putI (pc := 17) cx qp_N_80 qd_N_syncWithNext_17 (gm_N (by assumption)) rfl rfl ⟨rfl, rfl⟩ (fun h => nomatch h) ?_
    obtain ⟨c1, f1⟩ := h.N (i := i) (f := 17) (by decide) (by decide) (by decide) (nI m)
    refine gz_aload_n (pc := 20) cx qd_N_syncWithNext_20 rfl rfl ?_
    refine gz_bipush (v := 6) (pc := 21) cx qd_N_syncWithNext_21 (by decide) ?_
    refine gz_iload_n (pc := 23) cx qd_N_syncWithNext_23 rfl rfl ?_
    refine gz_iconst (v := 0) (pc := 24) cx qd_N_syncWithNext_24 (by decide) ?_
    refine gz_iconst (v := 0) (pc := 25) cx qd_N_syncWithNext_25 (by decide) ?_
    refine gz_iconst (v := 0) (pc := 26) cx qd_N_syncWithNext_26 (by decide) ?_
    refine gz_callV (pc := 27) cx qv_N_89 qd_N_syncWithNext_27 (gc_send hi c1 (Or.inl rfl)) (by decide) rfl (gm_N (by assumption)) rfl rfl rfl rfl (Nat.le_of_ble_eq_true rfl) ⟨Nat.zero_le _, Nat.zero_le _⟩ ?_
    rintro _ S' ⟨rfl, c2, f2⟩
    refine gz_return (pc := 30) cx hr qd_N_syncWithNext_30 ?_
    exact ⟨rfl, by rw [hsp, hn]; exact c2, f1.tr f2⟩
theorem mRest_27 {n : Nat} {M : mM} {i : Nat} : (mRest n M i).1 27 i 0 = M.1 27 i 0 := by
  unfold mRest
  simp only []
  split
  · split
    · rw [mSet_ne (by omega), mSet_ne (by omega)]
    · unfold mProbe
      simp only []
      rw [mSend_1 (by decide), mSet_ne (by omega), mSet_ne (by omega), mSet_ne (by omega), mSet_ne (by omega), mSet_ne (by omega), mSet_ne (by omega), mSet_ne (by omega), mSet_ne (by omega)]
  · rw [mSet_ne (by omega)]
theorem mEnd_27 {M : mM} {i : Nat} {w : Int32} : (mEnd M i w).1 27 i 0 = M.1 27 i 0 := by
  unfold mEnd
  simp only []
  rw [mSet_ne (by omega), mSet_ne (by omega), mSet_ne (by omega), mSet_ne (by omega)]
  split
  · split
    · rw [mSet_ne (by omega), mBecome_1 (by decide), mSet_ne (by omega)]
    · rw [mSet_ne (by omega)]
  · rw [mSet_ne (by omega)]
theorem mGo_27 {n : Nat} {M : mM} {i : Nat} {w : Int32} : (mGo n M i w).1 27 i 0 = M.1 27 i 0 := by
  unfold mGo
  simp only []
  have e : (if M.1 23 i 0 + 1 = 3 ∧ M.1 24 i 0 = 0 then mAskF n i (n - 1) 1 (mSet M 23 i 0 (M.1 23 i 0 + 1)) else mSet M 23 i 0 (M.1 23 i 0 + 1)).1 27 i 0 = M.1 27 i 0 := by
    split
    · rw [mAskF_1 (by decide) (by decide), mSet_ne (by omega)]
    · rw [mSet_ne (by omega)]
  split
  · exact e
  · rw [mEnd_27]; exact e
theorem gc_N_timer {G : gG} {la : Launch} {M : mM} {i0 : Nat} {kc : Option (Nat × List Int32)} {S : gS} {i : Nat} {w : Int32} (hi : i < G.1) (h : CR G M 0 i0 kc S) (hni : mNi G.1 M i) : gM G la qy_N_timer qw_N_timer 5 0 0 (gTt G) (gTt G) [.inr (some (7, i, 0)), .inl w] S (fun v S' => v = none ∧ CR G (mTimer G.1 M i w) 0 i0 kc S' ∧ gFr S S') := by
  refine gM_of (cc := qc_N_timer) (maxL := 2) (by decide) rfl (Nat.le_of_ble_eq_true rfl) ?_
  intro E cx hr hnm hcz hsz hEl
  subst hEl
  have tail : ∀ M2 S2, CR G M2 0 i0 kc S2 → gFr S S2 → isN G.1 (M2.1 27 i 0) → (mTimer G.1 M i w = if w - M2.1 16 i 0 - (w - M2.1 16 i 0) / 20 * 20 = 0 then mSync G.1 M2 i else M2) → gZ G E 0 0 (gEnd G E 0 0 (gTt G) (fun v S' => v = none ∧ CR G (mTimer G.1 M i w) 0 i0 kc S' ∧ gFr S S')) (gTt G) 29 [some (.inr (some (7, i, 0))), some (.inl w)] [] S2 := by
    intro M2 S2 c2 f2 h27 he
    refine gz_iload_n (pc := 29) cx qd_N_timer_29 rfl rfl ?_
    refine gz_aload_n (pc := 30) cx qd_N_timer_30 rfl rfl ?_
    refine gz_getV (pc := 31) cx qf_N_47 qd_N_timer_31 (gm_N (by assumption)) rfl rfl (c2.2.2.1 i 6 hi (by decide) (by decide) (by decide)) ?_
    refine gz_isub (pc := 34) cx qd_N_timer_34 ?_
    refine gz_bipush (v := 20) (pc := 35) cx qd_N_timer_35 (by decide) ?_
    refine gz_irem (pc := 37) cx qd_N_timer_37 (by decide) ?_
    refine gz_if_ne (tgt := 45) (pc := 38) cx qd_N_timer_38 (by decide) (fun h38 => ?_) (fun h38 => ?_)
    · refine gz_return (pc := 45) cx hr qd_N_timer_45 ?_
      rw [if_neg h38] at he
      exact ⟨rfl, by rw [he]; exact c2, f2⟩
    · refine gz_aload_n (pc := 41) cx qd_N_timer_41 rfl rfl ?_
      refine gz_callV (pc := 42) cx qv_N_214 qd_N_timer_42 (gc_N_syncWithNext hi c2 h27) (by decide) rfl (gm_N (by assumption)) rfl rfl rfl rfl (Nat.le_of_ble_eq_true rfl) ⟨Nat.zero_le _, Nat.zero_le _⟩ ?_
      rintro _ S' ⟨rfl, c3, f3⟩
      refine gz_return (pc := 45) cx hr qd_N_timer_45 ?_
      rw [if_pos h38] at he
      exact ⟨rfl, by rw [he]; exact c3, f2.tr f3⟩
  refine gz_aload_n (pc := 0) cx qd_N_timer_0 rfl rfl ?_
  refine gz_callV (pc := 1) cx qv_N_202 qd_N_timer_1 (gc_N_ageRelays hi h) (by decide) rfl (gm_N (by assumption)) rfl rfl rfl rfl (Nat.le_of_ble_eq_true rfl) ⟨Nat.zero_le _, Nat.zero_le _⟩ ?_
  rintro _ S' ⟨rfl, c1, f1⟩
  refine gz_aload_n (pc := 4) cx qd_N_timer_4 rfl rfl ?_
  refine gz_iload_n (pc := 5) cx qd_N_timer_5 rfl rfl ?_
  refine gz_callV (pc := 6) cx qv_N_205 qd_N_timer_6 (gc_N_buryOverdue hi c1) (by decide) rfl (gm_N (by assumption)) rfl rfl rfl rfl (Nat.le_of_ble_eq_true rfl) ⟨Nat.zero_le _, Nat.zero_le _⟩ ?_
  rintro _ S'' ⟨rfl, c2, f2⟩
  have en : ∀ f, 5 ≤ f → (mBury (mAge G.1 M i) i w G.1).1 f i 0 = M.1 f i 0 := fun f hf => (mBury_1 hf).trans (mAgeF_1 (by omega))
  refine gz_aload_n (pc := 9) cx qd_N_timer_9 rfl rfl ?_
  refine gz_getV (pc := 10) cx qf_N_62 qd_N_timer_10 (gm_N (by assumption)) rfl rfl (c2.2.2.1 i 11 hi (by decide) (by decide) (by decide)) ?_
  refine gz_iconst (v := -1) (pc := 13) cx qd_N_timer_13 (by decide) ?_
  refine gz_icmp_ne (tgt := 24) (pc := 14) cx qd_N_timer_14 (by decide) (fun h14 => ?_) (fun h14 => ?_)
  · obtain ⟨pr, hpp, hpr⟩ : isN G.1 ((mBury (mAge G.1 M i) i w G.1).1 21 i 0) := by
      rw [en 21 (by decide)] at h14 ⊢
      exact hni.2.2.resolve_left h14
    refine gz_aload_n (pc := 24) cx qd_N_timer_24 rfl rfl ?_
    refine gz_iload_n (pc := 25) cx qd_N_timer_25 rfl rfl ?_
    refine gz_callV (pc := 26) cx qv_N_211 qd_N_timer_26 (gc_N_goOnProbing hi c2 hpp hpr) (by decide) rfl (gm_N (by assumption)) rfl rfl rfl rfl (Nat.le_of_ble_eq_true rfl) ⟨Nat.zero_le _, Nat.zero_le _⟩ ?_
    rintro _ S3 ⟨rfl, c3, f3⟩
    refine tail _ _ c3 ((f1.tr f2).tr f3) (by rw [mGo_27, en 27 (by decide)]; exact hni.2.1) ?_
    unfold mTimer
    simp only []
    rw [if_neg h14]
  · refine gz_aload_n (pc := 17) cx qd_N_timer_17 rfl rfl ?_
    refine gz_callV (pc := 18) cx qv_N_208 qd_N_timer_18 (gc_N_restOrProbe hi c2 (by rw [en 22 (by decide)]; exact hni.1)) (by decide) rfl (gm_N (by assumption)) rfl rfl rfl rfl (Nat.le_of_ble_eq_true rfl) ⟨Nat.zero_le _, Nat.zero_le _⟩ ?_
    rintro _ S3 ⟨rfl, c3, f3⟩
    refine gz_goto (tgt := 29) (pc := 21) cx qd_N_timer_21 (by decide) ?_
    refine tail _ _ c3 ((f1.tr f2).tr f3) (by rw [mRest_27, en 27 (by decide)]; exact hni.2.1) ?_
    unfold mTimer
    simp only []
    rw [if_pos h14]
end
section
/-! the calls' pure picture -/
def mIs (n : Nat) (x : Int32) : Bool := decide (0 ≤ x ∧ x < nI n)
theorem mIs_iff {n : Nat} {x : Int32} (hn : n < 2 ^ 31) : mIs n x = true ↔ ∃ j, j < n ∧ x = nI j := by
  unfold mIs
  rw [decide_eq_true_iff]
  constructor
  · intro h
    rcases pk_ix x hn with q | q | q
    · exact absurd h.1 (Int32.not_le.mpr q)
    · exact absurd h.2 (Int32.not_lt.mpr q)
    · exact q
  · rintro ⟨j, hj, rfl⟩
    exact ⟨nI_pos' (by omega), nI_lt hj hn⟩
def mRun (n : Nat) (M : mM) (x : Int32) : Bool := mIs n x && !decide (M.1 15 x.toNatClampNeg 0 = 0)
def mForget (M : mM) (i : Nat) : Nat → mM
  | 0 => M
  | k + 1 => mSet (mSet (mSet (mSet (mSet (mForget M i k) 0 i k 0) 1 i k 0) 2 i k 0) 3 i k 0) 4 i k 0
def mBegin (n : Nat) (M : mM) (i : Nat) (w : Int32) : mM :=
  let M1 := mBecome (mForget M i n) i i 1 0 w
  let M2 := mRl (mSet (mSet (mSet M1 15 i 0 1) 16 i 0 w) 17 i 0 0) i []
  mSet (mSet (mSet (mSet (mSet (mSet (mSet (mSet (mSet M2 19 i 0 2) 20 i 0 0) 21 i 0 (-1)) 22 i 0 (nI i)) 23 i 0 0) 24 i 0 0) 25 i 0 0) 26 i 0 0) 27 i 0 (nI i)
def mFareF (n i : Nat) : Nat → mM → mM
  | 0, M => M
  | k + 1, M => let M1 := mFareF n i k M
    if k ≠ i ∧ M1.1 0 i k = 1 then mSend n M1 5 i (nI k) 0 0 0 else M1
def mFare (n : Nat) (M : mM) (i : Nat) (w : Int32) : mM := mFareF n i n (mBecome M i i 3 (M.1 1 i i) w)
theorem CR.noRelay {G : gG} {M : mM} {p i0 : Nat} {kc : Option (Nat × List Int32)} {S : gS} (h : CR G M p i0 kc S) {i : Nat} (hi : i < G.1) : CR G (mRl M i []) p i0 kc (gI S (7, i, 0) 8 0) ∧ gFr S (gI S (7, i, 0) 8 0) := by
  obtain ⟨ρ, a1, a2, a3, a4, a5⟩ := h.2.2.2.1 i hi
  refine h.R (fun k f h11 h7 => ?_) (fun i' k f _ => ?_) (fun i' hne => ?_) (fun k f hne => rfl) ⟨ρ, Nat.zero_le _, ?_, a3, a4, fun k hk => by cases hk⟩
  · rw [gI1, if_neg (fun q => h7 ⟨by rw [q.1], q.2⟩)]
  · rw [gI1, if_neg (fun q => by simp at q)]
  · rw [gI1, if_neg (fun q => hne (by simpa using q.1))]
  · rw [gI1, if_pos ⟨rfl, rfl⟩]; rfl
def mNewsN (M : mM) (i : Nat) : Nat → Int32
  | 0 => 0
  | k + 1 => if M.1 4 i k ≤ 0 then mNewsN M i k else mNewsN M i k + 1
def mTellM (msg : List Int32) (x : Int32) : Int32 := if x < 0 then 0 else msg.getD x.toNatClampNeg 0
def mTellE (M : mM) (i j : Nat) (x : Int32) : Int32 := if x = 0 then M.1 0 i j else if x = 1 then M.1 1 i j else if x = 2 then M.1 2 i j else if x = 3 then bitC (M.1 3 i j) else 0
def mTellN (n : Nat) (M : mM) (i : Nat) (x : Int32) : Int32 :=
  if x = 0 then (if M.1 15 i 0 = 0 then 0 else 1) else if x = 1 then M.1 1 i i else if x = 2 then M.1 17 i 0 else if x = 3 then M.1 21 i 0 else if x = 4 then M.1 23 i 0
  else if x = 5 then (if M.1 24 i 0 = 0 then 0 else 1) else if x = 6 then M.1 20 i 0 else if x = 7 then M.1 19 i 0 else if x = 8 then mNewsN M i n else if x = 9 then nI (M.2.1 i).length else 0
end
section
theorem gc_N_begin {G : gG} {la : Launch} {M : mM} {i0 : Nat} {kc : Option (Nat × List Int32)} {S : gS} {i : Nat} {w : Int32} (hi : i < G.1) (h : CR G M 0 i0 kc S) : gM G la qy_N_begin qw_N_begin 2 0 0 (gTt G) (gTt G) [.inr (some (7, i, 0)), .inl w] S (fun v S' => v = none ∧ CR G (mBegin G.1 M i w) 0 i0 kc S' ∧ gFr S S') := by
  refine gM_of (cc := qc_N_begin) (maxL := 3) (by decide) rfl (Nat.le_of_ble_eq_true rfl) ?_
  intro E cx hr hnm hcz hsz hEl
  subst hEl
  have h8 := h.1.2.1
  suffices hh : ∀ k, k ≤ G.1 → ∀ Sk, CR G (mForget M i k) 0 i0 kc Sk → gFr S Sk → gZ G E 0 0 (gEnd G E 0 0 (gTt G) (fun v S' => v = none ∧ CR G (mBegin G.1 M i w) 0 i0 kc S' ∧ gFr S S')) (gTt G) 2 [some (.inr (some (7, i, 0))), some (.inl w), some (.inl (nI k))] [] Sk by
    refine gz_iconst (v := 0) (pc := 0) cx qd_N_begin_0 (by decide) ?_
    refine gz_istore_n (pc := 1) cx qd_N_begin_1 rfl (Nat.le_of_ble_eq_true rfl) ?_
    exact hh 0 (Nat.zero_le _) S h gFr.rf
  refine g_upto ?_ ?_
  · intro Sk hc hf
    obtain ⟨hid, hcnt⟩ := hc.1.2.2.2.1 i hi
    have hst := hc.1.1
    refine gz_iload_n (pc := 2) cx qd_N_begin_2 rfl rfl ?_
    refine gz_aload_n (pc := 3) cx qd_N_begin_3 rfl rfl ?_
    refine gz_getV (pc := 4) cx qf_N_21 qd_N_begin_4 (gm_N (by assumption)) rfl rfl hcnt ?_
    refine gz_icmp_ge (tgt := 25) (pc := 7) cx qd_N_begin_7 (by decide) (fun _ => ?_) (fun h7 => absurd (Int32.le_refl _) h7)
    refine gz_aload_n (pc := 25) cx qd_N_begin_25 rfl rfl ?_
    refine gz_getR (pc := 26) cx qf_N_30 qd_N_begin_26 (gm_N (by assumption)) rfl rfl (hst _ _ _ rfl) ?_
    refine gz_aload_n (pc := 29) cx qd_N_begin_29 rfl rfl ?_
    refine gz_getV (pc := 30) cx qf_N_17 qd_N_begin_30 (gm_N (by assumption)) rfl rfl hid ?_
    refine gz_aaload (pc := 33) cx qd_N_begin_33 (by first | exact gm_tb (by assumption) | exact gm_ns | exact gm_cf | exact gm_w (by assumption) | exact gm_nw (by assumption) | exact gm_rs (by assumption) | exact gm_M (by assumption) | exact gm_R (by assumption) (by assumption) | exact gm_za (by decide) (by decide)) rfl ⟨by decide, by decide, rfl⟩ (hst _ _ _ rfl) rfl hi (by omega) ?_
    refine gz_iconst (v := 1) (pc := 34) cx qd_N_begin_34 (by decide) ?_
    refine gz_iconst (v := 0) (pc := 35) cx qd_N_begin_35 (by decide) ?_
    refine gz_iload_n (pc := 36) cx qd_N_begin_36 rfl rfl ?_
    refine gz_callV (pc := 37) cx qv_N_39 qd_N_begin_37 (gc_E_become hi hi) (by decide) rfl (gm_E (by assumption) (by assumption)) rfl rfl rfl rfl (Nat.le_of_ble_eq_true rfl) ⟨Nat.zero_le _, Nat.zero_le _⟩ ?_
    rintro _ _ ⟨rfl, rfl⟩
    obtain ⟨c0, f0⟩ := hc.become (i := i) (j := i) 1 0 w
    obtain ⟨c1, f1⟩ := c0.N (i := i) (f := 5) (by decide) (by decide) (by decide) (1)
    obtain ⟨c2, f2⟩ := c1.N (i := i) (f := 6) (by decide) (by decide) (by decide) (w)
    obtain ⟨c3, f3⟩ := c2.N (i := i) (f := 7) (by decide) (by decide) (by decide) (0)
    obtain ⟨c4, f4⟩ := c3.noRelay (i := i) hi
    obtain ⟨c5, f5⟩ := c4.N (i := i) (f := 9) (by decide) (by decide) (by decide) (2)
    obtain ⟨c6, f6⟩ := c5.N (i := i) (f := 10) (by decide) (by decide) (by decide) (0)
    obtain ⟨c7, f7⟩ := c6.N (i := i) (f := 11) (by decide) (by decide) (by decide) (-1)
    obtain ⟨c8, f8⟩ := c7.N (i := i) (f := 12) (by decide) (by decide) (by decide) (nI i)
    obtain ⟨c9, f9⟩ := c8.N (i := i) (f := 13) (by decide) (by decide) (by decide) (0)
    obtain ⟨c10, f10⟩ := c9.N (i := i) (f := 14) (by decide) (by decide) (by decide) (0)
    obtain ⟨c11, f11⟩ := c10.N (i := i) (f := 15) (by decide) (by decide) (by decide) (0)
    obtain ⟨c12, f12⟩ := c11.N (i := i) (f := 16) (by decide) (by decide) (by decide) (0)
    obtain ⟨c13, f13⟩ := c12.N (i := i) (f := 17) (by decide) (by decide) (by decide) (nI i)
    refine gz_aload_n (pc := 40) cx qd_N_begin_40 rfl rfl ?_
    refine gz_iconst (v := 1) (pc := 41) cx qd_N_begin_41 (by decide) ?_
    refine gz_putI (pc := 42) cx qp_N_43 qd_N_begin_42 (gm_N (by assumption)) rfl rfl ⟨by decide, by decide⟩ (fun h => nomatch h) ?_
    refine gz_aload_n (pc := 45) cx qd_N_begin_45 rfl rfl ?_
    refine gz_iload_n (pc := 46) cx qd_N_begin_46 rfl rfl ?_
    refine gz_putI (pc := 47) cx qp_N_47 qd_N_begin_47 (gm_N (by assumption)) rfl rfl ⟨rfl, rfl⟩ (fun h => nomatch h) ?_
    refine gz_aload_n (pc := 50) cx qd_N_begin_50 rfl rfl ?_
    refine gz_iconst (v := 0) (pc := 51) cx qd_N_begin_51 (by decide) ?_
    refine gz_putI (pc := 52) cx qp_N_50 qd_N_begin_52 (gm_N (by assumption)) rfl rfl ⟨rfl, rfl⟩ (fun h => nomatch h) ?_
    refine gz_aload_n (pc := 55) cx qd_N_begin_55 rfl rfl ?_
    refine gz_iconst (v := 0) (pc := 56) cx qd_N_begin_56 (by decide) ?_
    refine gz_putI (pc := 57) cx qp_N_53 qd_N_begin_57 (gm_N (by assumption)) rfl rfl ⟨rfl, rfl⟩ (fun h => nomatch h) ?_
    refine gz_aload_n (pc := 60) cx qd_N_begin_60 rfl rfl ?_
    refine gz_iconst (v := 2) (pc := 61) cx qd_N_begin_61 (by decide) ?_
    refine gz_putI (pc := 62) cx qp_N_56 qd_N_begin_62 (gm_N (by assumption)) rfl rfl ⟨rfl, rfl⟩ (fun h => nomatch h) ?_
    refine gz_aload_n (pc := 65) cx qd_N_begin_65 rfl rfl ?_
    refine gz_iconst (v := 0) (pc := 66) cx qd_N_begin_66 (by decide) ?_
    refine gz_putI (pc := 67) cx qp_N_59 qd_N_begin_67 (gm_N (by assumption)) rfl rfl ⟨rfl, rfl⟩ (fun h => nomatch h) ?_
    refine gz_aload_n (pc := 70) cx qd_N_begin_70 rfl rfl ?_
    refine gz_iconst (v := -1) (pc := 71) cx qd_N_begin_71 (by decide) ?_
    refine gz_putI (pc := 72) cx qp_N_62 qd_N_begin_72 (gm_N (by assumption)) rfl rfl ⟨rfl, rfl⟩ (fun h => nomatch h) ?_
    refine gz_aload_n (pc := 75) cx qd_N_begin_75 rfl rfl ?_
    refine gz_aload_n (pc := 76) cx qd_N_begin_76 rfl rfl ?_
    refine gz_getV (pc := 77) cx qf_N_17 qd_N_begin_77 (gm_N (by assumption)) rfl rfl (c7.1.2.2.2.1 i hi).1 ?_
    refine gz_putI (pc := 80) cx qp_N_65 qd_N_begin_80 (gm_N (by assumption)) rfl rfl ⟨rfl, rfl⟩ (fun h => nomatch h) ?_
    refine gz_aload_n (pc := 83) cx qd_N_begin_83 rfl rfl ?_
    refine gz_iconst (v := 0) (pc := 84) cx qd_N_begin_84 (by decide) ?_
    refine gz_putI (pc := 85) cx qp_N_68 qd_N_begin_85 (gm_N (by assumption)) rfl rfl ⟨rfl, rfl⟩ (fun h => nomatch h) ?_
    refine gz_aload_n (pc := 88) cx qd_N_begin_88 rfl rfl ?_
    refine gz_iconst (v := 0) (pc := 89) cx qd_N_begin_89 (by decide) ?_
    refine gz_putI (pc := 90) cx qp_N_71 qd_N_begin_90 (gm_N (by assumption)) rfl rfl ⟨by decide, by decide⟩ (fun h => nomatch h) ?_
    refine gz_aload_n (pc := 93) cx qd_N_begin_93 rfl rfl ?_
    refine gz_iconst (v := 0) (pc := 94) cx qd_N_begin_94 (by decide) ?_
    refine gz_putI (pc := 95) cx qp_N_74 qd_N_begin_95 (gm_N (by assumption)) rfl rfl ⟨rfl, rfl⟩ (fun h => nomatch h) ?_
    refine gz_aload_n (pc := 98) cx qd_N_begin_98 rfl rfl ?_
    refine gz_iconst (v := 0) (pc := 99) cx qd_N_begin_99 (by decide) ?_
    refine gz_putI (pc := 100) cx qp_N_77 qd_N_begin_100 (gm_N (by assumption)) rfl rfl ⟨rfl, rfl⟩ (fun h => nomatch h) ?_
    refine gz_aload_n (pc := 103) cx qd_N_begin_103 rfl rfl ?_
    refine gz_aload_n (pc := 104) cx qd_N_begin_104 rfl rfl ?_
    refine gz_getV (pc := 105) cx qf_N_17 qd_N_begin_105 (gm_N (by assumption)) rfl rfl (c12.1.2.2.2.1 i hi).1 ?_
    refine gz_putI (pc := 108) cx qp_N_80 qd_N_begin_108 (gm_N (by assumption)) rfl rfl ⟨rfl, rfl⟩ (fun h => nomatch h) ?_
    refine gz_return (pc := 111) cx hr qd_N_begin_111 ?_
    exact ⟨rfl, c13, (((((((((((((hf.tr f0).tr f1).tr f2).tr f3).tr f4).tr f5).tr f6).tr f7).tr f8).tr f9).tr f10).tr f11).tr f12).tr f13⟩
  · intro k hk ih Sk hc hf
    obtain ⟨hid, hcnt⟩ := hc.1.2.2.2.1 i hi
    have hst := hc.1.1
    refine gz_iload_n (pc := 2) cx qd_N_begin_2 rfl rfl ?_
    refine gz_aload_n (pc := 3) cx qd_N_begin_3 rfl rfl ?_
    refine gz_getV (pc := 4) cx qf_N_21 qd_N_begin_4 (gm_N (by assumption)) rfl rfl hcnt ?_
    refine gz_icmp_ge (tgt := 25) (pc := 7) cx qd_N_begin_7 (by decide) (fun h7 => absurd h7 (nI_ge hk (by omega))) (fun _ => ?_)
    refine gz_aload_n (pc := 10) cx qd_N_begin_10 rfl rfl ?_
    refine gz_getR (pc := 11) cx qf_N_30 qd_N_begin_11 (gm_N (by assumption)) rfl rfl (hst _ _ _ rfl) ?_
    refine gz_iload_n (pc := 14) cx qd_N_begin_14 rfl rfl ?_
    refine gz_aaload (pc := 15) cx qd_N_begin_15 (by first | exact gm_tb (by assumption) | exact gm_ns | exact gm_cf | exact gm_w (by assumption) | exact gm_nw (by assumption) | exact gm_rs (by assumption) | exact gm_M (by assumption) | exact gm_R (by assumption) (by assumption) | exact gm_za (by decide) (by decide)) rfl ⟨by decide, by decide, rfl⟩ (hst _ _ _ rfl) rfl (by assumption) (by omega) ?_
    refine gz_callV (pc := 16) cx qv_N_36 qd_N_begin_16 (gc_E_forget hi hk) (by decide) rfl (gm_E (by assumption) (by assumption)) rfl rfl rfl rfl (Nat.le_of_ble_eq_true rfl) ⟨Nat.zero_le _, Nat.zero_le _⟩ ?_
    rintro _ _ ⟨rfl, rfl⟩
    refine gz_iinc (pc := 19) cx qd_N_begin_19 rfl (g_inc k) ?_
    refine gz_goto (tgt := 2) (pc := 22) cx qd_N_begin_22 (by decide) ?_
    obtain ⟨c1, f1⟩ := hc.E (i := i) (j := k) (f := 0) (by decide) 0
    obtain ⟨c2, f2⟩ := c1.E (i := i) (j := k) (f := 1) (by decide) 0
    obtain ⟨c3, f3⟩ := c2.E (i := i) (j := k) (f := 2) (by decide) 0
    obtain ⟨c4, f4⟩ := c3.E (i := i) (j := k) (f := 3) (by decide) 0
    obtain ⟨c5, f5⟩ := c4.E (i := i) (j := k) (f := 4) (by decide) 0
    exact ih _ c5 (((((hf.tr f1).tr f2).tr f3).tr f4).tr f5)
theorem gc_N_sayFarewell {G : gG} {la : Launch} {M : mM} {i0 : Nat} {kc : Option (Nat × List Int32)} {S : gS} {i : Nat} {w : Int32} (hi : i < G.1) (h : CR G M 0 i0 kc S) : gM G la qy_N_sayFarewell qw_N_sayFarewell 3 0 0 (gTt G) (gTt G) [.inr (some (7, i, 0)), .inl w] S (fun v S' => v = none ∧ CR G (mFare G.1 M i w) 0 i0 kc S' ∧ gFr S S') := by
  refine gM_of (cc := qc_N_sayFarewell) (maxL := 3) (by decide) rfl (Nat.le_of_ble_eq_true rfl) ?_
  intro E cx hr hnm hcz hsz hEl
  subst hEl
  have h8 := h.1.2.1
  obtain ⟨hid, hcnt⟩ := h.1.2.2.2.1 i hi
  have hst := h.1.1
  have e1 := h.2.1 i i 1 hi hi (by decide)
  obtain ⟨c0, f0⟩ := h.become (i := i) (j := i) 3 (M.1 1 i i) w
  suffices hh : ∀ k, k ≤ G.1 → ∀ Sk, CR G (mFareF G.1 i k (mBecome M i i 3 (M.1 1 i i) w)) 0 i0 kc Sk → gFr S Sk → gZ G E 0 0 (gEnd G E 0 0 (gTt G) (fun v S' => v = none ∧ CR G (mFare G.1 M i w) 0 i0 kc S' ∧ gFr S S')) (gTt G) 28 [some (.inr (some (7, i, 0))), some (.inl w), some (.inl (nI k))] [] Sk by
    refine gz_aload_n (pc := 0) cx qd_N_sayFarewell_0 rfl rfl ?_
    refine gz_getR (pc := 1) cx qf_N_30 qd_N_sayFarewell_1 (gm_N (by assumption)) rfl rfl (hst _ _ _ rfl) ?_
    refine gz_aload_n (pc := 4) cx qd_N_sayFarewell_4 rfl rfl ?_
    refine gz_getV (pc := 5) cx qf_N_17 qd_N_sayFarewell_5 (gm_N (by assumption)) rfl rfl hid ?_
    refine gz_aaload (pc := 8) cx qd_N_sayFarewell_8 (by first | exact gm_tb (by assumption) | exact gm_ns | exact gm_cf | exact gm_w (by assumption) | exact gm_nw (by assumption) | exact gm_rs (by assumption) | exact gm_M (by assumption) | exact gm_R (by assumption) (by assumption) | exact gm_za (by decide) (by decide)) rfl ⟨by decide, by decide, rfl⟩ (hst _ _ _ rfl) rfl hi (by omega) ?_
    refine gz_iconst (v := 3) (pc := 9) cx qd_N_sayFarewell_9 (by decide) ?_
    refine gz_aload_n (pc := 10) cx qd_N_sayFarewell_10 rfl rfl ?_
    refine gz_getR (pc := 11) cx qf_N_30 qd_N_sayFarewell_11 (gm_N (by assumption)) rfl rfl (hst _ _ _ rfl) ?_
    refine gz_aload_n (pc := 14) cx qd_N_sayFarewell_14 rfl rfl ?_
    refine gz_getV (pc := 15) cx qf_N_17 qd_N_sayFarewell_15 (gm_N (by assumption)) rfl rfl hid ?_
    refine gz_aaload (pc := 18) cx qd_N_sayFarewell_18 (by first | exact gm_tb (by assumption) | exact gm_ns | exact gm_cf | exact gm_w (by assumption) | exact gm_nw (by assumption) | exact gm_rs (by assumption) | exact gm_M (by assumption) | exact gm_R (by assumption) (by assumption) | exact gm_za (by decide) (by decide)) rfl ⟨by decide, by decide, rfl⟩ (hst _ _ _ rfl) rfl hi (by omega) ?_
    refine gz_getV (pc := 19) cx qf_N_83 qd_N_sayFarewell_19 (gm_E (by assumption) (by assumption)) rfl rfl e1 ?_
    refine gz_iload_n (pc := 22) cx qd_N_sayFarewell_22 rfl rfl ?_
    refine gz_callV (pc := 23) cx qv_N_39 qd_N_sayFarewell_23 (gc_E_become hi hi) (by decide) rfl (gm_E (by assumption) (by assumption)) rfl rfl rfl rfl (Nat.le_of_ble_eq_true rfl) ⟨Nat.zero_le _, Nat.zero_le _⟩ ?_
    rintro _ _ ⟨rfl, rfl⟩
    refine gz_iconst (v := 0) (pc := 26) cx qd_N_sayFarewell_26 (by decide) ?_
    refine gz_istore_n (pc := 27) cx qd_N_sayFarewell_27 rfl (Nat.le_of_ble_eq_true rfl) ?_
    exact hh 0 (Nat.zero_le _) _ c0 f0
  refine g_upto ?_ ?_
  · intro Sk hc hf
    obtain ⟨hid, hcnt⟩ := hc.1.2.2.2.1 i hi
    refine gz_iload_n (pc := 28) cx qd_N_sayFarewell_28 rfl rfl ?_
    refine gz_aload_n (pc := 29) cx qd_N_sayFarewell_29 rfl rfl ?_
    refine gz_getV (pc := 30) cx qf_N_21 qd_N_sayFarewell_30 (gm_N (by assumption)) rfl rfl hcnt ?_
    refine gz_icmp_ge (tgt := 72) (pc := 33) cx qd_N_sayFarewell_33 (by decide) (fun _ => ?_) (fun h33 => absurd (Int32.le_refl _) h33)
    refine gz_return (pc := 72) cx hr qd_N_sayFarewell_72 ?_
    exact ⟨rfl, hc, hf⟩
  · intro k hk ih Sk hc hf
    obtain ⟨hid, hcnt⟩ := hc.1.2.2.2.1 i hi
    have hst := hc.1.1
    have e0 := hc.2.1 i k 0 hi hk (by decide)
    have hmi : nI k = nI i ↔ k = i := nI_eq (by omega) (by omega)
    refine gz_iload_n (pc := 28) cx qd_N_sayFarewell_28 rfl rfl ?_
    refine gz_aload_n (pc := 29) cx qd_N_sayFarewell_29 rfl rfl ?_
    refine gz_getV (pc := 30) cx qf_N_21 qd_N_sayFarewell_30 (gm_N (by assumption)) rfl rfl hcnt ?_
    refine gz_icmp_ge (tgt := 72) (pc := 33) cx qd_N_sayFarewell_33 (by decide) (fun h33 => absurd h33 (nI_ge hk (by omega))) (fun _ => ?_)
    refine gz_iload_n (pc := 36) cx qd_N_sayFarewell_36 rfl rfl ?_
    refine gz_aload_n (pc := 37) cx qd_N_sayFarewell_37 rfl rfl ?_
    refine gz_getV (pc := 38) cx qf_N_17 qd_N_sayFarewell_38 (gm_N (by assumption)) rfl rfl hid ?_
    refine gz_icmp_eq (tgt := 66) (pc := 41) cx qd_N_sayFarewell_41 (by decide) (fun h41 => ?_) (fun h41 => ?_)
    · refine gz_iinc (pc := 66) cx qd_N_sayFarewell_66 rfl (g_inc k) ?_
      refine gz_goto (tgt := 28) (pc := 69) cx qd_N_sayFarewell_69 (by decide) ?_
      refine ih _ ?_ hf
      show CR G (if k ≠ i ∧ _ then _ else _) _ _ _ _
      rw [if_neg (fun q => q.1 (hmi.mp h41))]
      exact hc
    · refine gz_aload_n (pc := 44) cx qd_N_sayFarewell_44 rfl rfl ?_
      refine gz_getR (pc := 45) cx qf_N_30 qd_N_sayFarewell_45 (gm_N (by assumption)) rfl rfl (hst _ _ _ rfl) ?_
      refine gz_iload_n (pc := 48) cx qd_N_sayFarewell_48 rfl rfl ?_
      refine gz_aaload (pc := 49) cx qd_N_sayFarewell_49 (by first | exact gm_tb (by assumption) | exact gm_ns | exact gm_cf | exact gm_w (by assumption) | exact gm_nw (by assumption) | exact gm_rs (by assumption) | exact gm_M (by assumption) | exact gm_R (by assumption) (by assumption) | exact gm_za (by decide) (by decide)) rfl ⟨by decide, by decide, rfl⟩ (hst _ _ _ rfl) rfl (by assumption) (by omega) ?_
      refine gz_getV (pc := 50) cx qf_N_86 qd_N_sayFarewell_50 (gm_E (by assumption) (by assumption)) rfl rfl e0 ?_
      refine gz_iconst (v := 1) (pc := 53) cx qd_N_sayFarewell_53 (by decide) ?_
      refine gz_icmp_ne (tgt := 66) (pc := 54) cx qd_N_sayFarewell_54 (by decide) (fun h54 => ?_) (fun h54 => ?_)
      · refine gz_iinc (pc := 66) cx qd_N_sayFarewell_66 rfl (g_inc k) ?_
        refine gz_goto (tgt := 28) (pc := 69) cx qd_N_sayFarewell_69 (by decide) ?_
        refine ih _ ?_ hf
        show CR G (if k ≠ i ∧ _ then _ else _) _ _ _ _
        rw [if_neg (fun q => h54 q.2)]
        exact hc
      · refine gz_aload_n (pc := 57) cx qd_N_sayFarewell_57 rfl rfl ?_
        refine gz_iconst (v := 5) (pc := 58) cx qd_N_sayFarewell_58 (by decide) ?_
        refine gz_iload_n (pc := 59) cx qd_N_sayFarewell_59 rfl rfl ?_
        refine gz_iconst (v := 0) (pc := 60) cx qd_N_sayFarewell_60 (by decide) ?_
        refine gz_iconst (v := 0) (pc := 61) cx qd_N_sayFarewell_61 (by decide) ?_
        refine gz_iconst (v := 0) (pc := 62) cx qd_N_sayFarewell_62 (by decide) ?_
        refine gz_callV (pc := 63) cx qv_N_89 qd_N_sayFarewell_63 (gc_send hi hc (Or.inl rfl)) (by decide) rfl (gm_N (by assumption)) rfl rfl rfl rfl (Nat.le_of_ble_eq_true rfl) ⟨Nat.zero_le _, Nat.zero_le _⟩ ?_
        rintro _ S' ⟨rfl, c2, f2⟩
        refine gz_iinc (pc := 66) cx qd_N_sayFarewell_66 rfl (g_inc k) ?_
        refine gz_goto (tgt := 28) (pc := 69) cx qd_N_sayFarewell_69 (by decide) ?_
        refine ih _ ?_ (hf.tr f2)
        show CR G (if k ≠ i ∧ _ then _ else _) _ _ _ _
        rw [if_pos ⟨fun q => h41 (hmi.mpr q), h54⟩]
        exact c2
theorem gc_N_countQueued {G : gG} {la : Launch} {M : mM} {p i0 : Nat} {kc : Option (Nat × List Int32)} {S : gS} {i : Nat} (hi : i < G.1) (h : CR G M p i0 kc S) : gM G la qy_N_countQueued qw_N_countQueued 0 0 0 (gTt G) (gTt G) [.inr (some (7, i, 0))] S (fun v S' => v = some (.inl (mNewsN M i G.1)) ∧ S' = S) := by
  refine gM_of (cc := qc_N_countQueued) (maxL := 3) (by decide) rfl (Nat.le_of_ble_eq_true rfl) ?_
  intro E cx hr hnm hcz hsz hEl
  subst hEl
  have h8 := h.1.2.1
  obtain ⟨hid, hcnt⟩ := h.1.2.2.2.1 i hi
  have hst := h.1.1
  suffices hh : ∀ k, k ≤ G.1 → (fun k => gZ G E 0 0 (gEnd G E 0 0 (gTt G) (fun v S' => v = some (.inl (mNewsN M i G.1)) ∧ S' = S)) (gTt G) 4 [some (.inr (some (7, i, 0))), some (.inl (mNewsN M i k)), some (.inl (nI k))] [] S) k by
    refine gz_iconst (v := 0) (pc := 0) cx qd_N_countQueued_0 (by decide) ?_
    refine gz_istore_n (pc := 1) cx qd_N_countQueued_1 rfl (Nat.le_of_ble_eq_true rfl) ?_
    refine gz_iconst (v := 0) (pc := 2) cx qd_N_countQueued_2 (by decide) ?_
    refine gz_istore_n (pc := 3) cx qd_N_countQueued_3 rfl (Nat.le_of_ble_eq_true rfl) ?_
    exact hh 0 (Nat.zero_le _)
  refine g_upto ?_ ?_
  · refine gz_iload_n (pc := 4) cx qd_N_countQueued_4 rfl rfl ?_
    refine gz_aload_n (pc := 5) cx qd_N_countQueued_5 rfl rfl ?_
    refine gz_getV (pc := 6) cx qf_N_21 qd_N_countQueued_6 (gm_N (by assumption)) rfl rfl hcnt ?_
    refine gz_icmp_ge (tgt := 33) (pc := 9) cx qd_N_countQueued_9 (by decide) (fun _ => ?_) (fun h9 => absurd (Int32.le_refl _) h9)
    refine gz_iload_n (pc := 33) cx qd_N_countQueued_33 rfl rfl ?_
    refine gz_ireturn (pc := 34) cx hr rfl qd_N_countQueued_34 ?_
    exact ⟨rfl, rfl⟩
  · intro k hk ih
    have e4 := h.2.1 i k 4 hi hk (by decide)
    refine gz_iload_n (pc := 4) cx qd_N_countQueued_4 rfl rfl ?_
    refine gz_aload_n (pc := 5) cx qd_N_countQueued_5 rfl rfl ?_
    refine gz_getV (pc := 6) cx qf_N_21 qd_N_countQueued_6 (gm_N (by assumption)) rfl rfl hcnt ?_
    refine gz_icmp_ge (tgt := 33) (pc := 9) cx qd_N_countQueued_9 (by decide) (fun h9 => absurd h9 (nI_ge hk (by omega))) (fun _ => ?_)
    refine gz_aload_n (pc := 12) cx qd_N_countQueued_12 rfl rfl ?_
    refine gz_getR (pc := 13) cx qf_N_30 qd_N_countQueued_13 (gm_N (by assumption)) rfl rfl (hst _ _ _ rfl) ?_
    refine gz_iload_n (pc := 16) cx qd_N_countQueued_16 rfl rfl ?_
    refine gz_aaload (pc := 17) cx qd_N_countQueued_17 (by first | exact gm_tb (by assumption) | exact gm_ns | exact gm_cf | exact gm_w (by assumption) | exact gm_nw (by assumption) | exact gm_rs (by assumption) | exact gm_M (by assumption) | exact gm_R (by assumption) (by assumption) | exact gm_za (by decide) (by decide)) rfl ⟨by decide, by decide, rfl⟩ (hst _ _ _ rfl) rfl (by assumption) (by omega) ?_
    refine gz_getV (pc := 18) cx qf_N_122 qd_N_countQueued_18 (gm_E (by assumption) (by assumption)) rfl rfl e4 ?_
    refine gz_if_le (tgt := 27) (pc := 21) cx qd_N_countQueued_21 (by decide) (fun h21 => ?_) (fun h21 => ?_)
    · refine gz_iinc (pc := 27) cx qd_N_countQueued_27 rfl (g_inc k) ?_
      refine gz_goto (tgt := 4) (pc := 30) cx qd_N_countQueued_30 (by decide) ?_
      refine g_swap ?_ ih
      show gZ _ _ _ _ _ _ _ [_, some (.inl (if M.1 4 i k ≤ 0 then mNewsN M i k else mNewsN M i k + 1)), _] _ _ = _
      rw [if_pos h21]
      rfl
    · refine gz_iinc (pc := 24) cx qd_N_countQueued_24 rfl rfl ?_
      refine gz_iinc (pc := 27) cx qd_N_countQueued_27 rfl (g_inc k) ?_
      refine gz_goto (tgt := 4) (pc := 30) cx qd_N_countQueued_30 (by decide) ?_
      refine g_swap ?_ ih
      show gZ _ _ _ _ _ _ _ [_, some (.inl (if M.1 4 i k ≤ 0 then mNewsN M i k else mNewsN M i k + 1)), _] _ _ = _
      rw [if_neg h21]
      rfl
theorem gc_N_tell {G : gG} {la : Launch} {M : mM} {p i0 : Nat} {kc : Option (Nat × List Int32)} {S : gS} {i : Nat} {x : Int32} (hi : i < G.1) (h : CR G M p i0 kc S) : gM G la qy_N_tell qw_N_tell 1 0 0 (gTt G) (gTt G) [.inr (some (7, i, 0)), .inl x] S (fun v S' => v = some (.inl (mTellN G.1 M i x)) ∧ S' = S) := by
  refine gM_of (cc := qc_N_tell) (maxL := 2) (by decide) rfl (Nat.le_of_ble_eq_true rfl) ?_
  intro E cx hr hnm hcz hsz hEl
  subst hEl
  have h8 := h.1.2.1
  obtain ⟨hid, hcnt⟩ := h.1.2.2.2.1 i hi
  have hst := h.1.1
  have hI := hi
  have e5 : S.1 (7, i, 0) 5 = M.1 15 i 0 := h.2.2.1 i 5 hi (by decide) (by decide) (by decide)
  have e7 : S.1 (7, i, 0) 7 = M.1 17 i 0 := h.2.2.1 i 7 hi (by decide) (by decide) (by decide)
  have e9 : S.1 (7, i, 0) 9 = M.1 19 i 0 := h.2.2.1 i 9 hi (by decide) (by decide) (by decide)
  have e10 : S.1 (7, i, 0) 10 = M.1 20 i 0 := h.2.2.1 i 10 hi (by decide) (by decide) (by decide)
  have e11 : S.1 (7, i, 0) 11 = M.1 21 i 0 := h.2.2.1 i 11 hi (by decide) (by decide) (by decide)
  have e13 : S.1 (7, i, 0) 13 = M.1 23 i 0 := h.2.2.1 i 13 hi (by decide) (by decide) (by decide)
  have e14 : S.1 (7, i, 0) 14 = M.1 24 i 0 := h.2.2.1 i 14 hi (by decide) (by decide) (by decide)
  have e1 := h.2.1 i i 1 hi hi (by decide)
  have e8 := (h.2.2.2.1 i hi).choose_spec.2.1
  refine gz_iload_n (pc := 0) cx qd_N_tell_0 rfl rfl ?_
  refine gz_switch (pc := 1) cx 9 (fun i => [56, 69, 82, 87, 92, 97, 110, 115, 120, 125].getD i 0) 130 qd_N_tell_1 (by decide) (by intro i hi; match i, hi with
    | 0, _ => exact ⟨_, rfl, by decide⟩
    | 1, _ => exact ⟨_, rfl, by decide⟩
    | 2, _ => exact ⟨_, rfl, by decide⟩
    | 3, _ => exact ⟨_, rfl, by decide⟩
    | 4, _ => exact ⟨_, rfl, by decide⟩
    | 5, _ => exact ⟨_, rfl, by decide⟩
    | 6, _ => exact ⟨_, rfl, by decide⟩
    | 7, _ => exact ⟨_, rfl, by decide⟩
    | 8, _ => exact ⟨_, rfl, by decide⟩
    | 9, _ => exact ⟨_, rfl, by decide⟩
    | i + 10, hi => exact absurd hi (by omega)) (by decide) (fun i hi hx => ?_) (fun hx => ?_)
  · match i, hi with
    | 0, _ =>
      subst hx
      refine gz_aload_n (pc := 56) cx qd_N_tell_56 rfl rfl ?_
      refine gz_getV (pc := 57) cx qf_N_43 qd_N_tell_57 (gm_N (by assumption)) rfl rfl e5 ?_
      refine gz_if_eq (tgt := 67) (pc := 60) cx qd_N_tell_60 (by decide) (fun h60 => ?_) (fun h60 => ?_)
      · refine gz_iconst (v := 0) (pc := 67) cx qd_N_tell_67 (by decide) ?_
        refine gz_ireturn (pc := 68) cx hr rfl qd_N_tell_68 ?_
        refine ⟨?_, rfl⟩
        unfold mTellN
        rw [if_pos (show nI 0 = (0 : Int32) from rfl)]
        first | rw [if_pos h60] | rw [if_neg h60]
      · refine gz_iconst (v := 1) (pc := 63) cx qd_N_tell_63 (by decide) ?_
        refine gz_goto (tgt := 68) (pc := 64) cx qd_N_tell_64 (by decide) ?_
        refine gz_ireturn (pc := 68) cx hr rfl qd_N_tell_68 ?_
        refine ⟨?_, rfl⟩
        unfold mTellN
        rw [if_pos (show nI 0 = (0 : Int32) from rfl)]
        first | rw [if_pos h60] | rw [if_neg h60]
    | 1, _ =>
      subst hx
      refine gz_aload_n (pc := 69) cx qd_N_tell_69 rfl rfl ?_
      refine gz_getR (pc := 70) cx qf_N_30 qd_N_tell_70 (gm_N hI) rfl rfl (hst _ _ _ rfl) ?_
      refine gz_aload_n (pc := 73) cx qd_N_tell_73 rfl rfl ?_
      refine gz_getV (pc := 74) cx qf_N_17 qd_N_tell_74 (gm_N (by assumption)) rfl rfl hid ?_
      refine gz_aaload (pc := 77) cx qd_N_tell_77 (gm_tb hI) rfl ⟨by decide, by decide, rfl⟩ (hst _ _ _ rfl) rfl hI (by omega) ?_
      refine gz_getV (pc := 78) cx qf_N_83 qd_N_tell_78 (gm_E hI hI) rfl rfl e1 ?_
      refine gz_ireturn (pc := 81) cx hr rfl qd_N_tell_81 ?_
      exact ⟨rfl, rfl⟩
    | 2, _ =>
      subst hx
      refine gz_aload_n (pc := 82) cx qd_N_tell_82 rfl rfl ?_
      refine gz_getV (pc := 83) cx qf_N_50 qd_N_tell_83 (gm_N (by assumption)) rfl rfl e7 ?_
      refine gz_ireturn (pc := 86) cx hr rfl qd_N_tell_86 ?_
      exact ⟨rfl, rfl⟩
    | 3, _ =>
      subst hx
      refine gz_aload_n (pc := 87) cx qd_N_tell_87 rfl rfl ?_
      refine gz_getV (pc := 88) cx qf_N_62 qd_N_tell_88 (gm_N (by assumption)) rfl rfl e11 ?_
      refine gz_ireturn (pc := 91) cx hr rfl qd_N_tell_91 ?_
      exact ⟨rfl, rfl⟩
    | 4, _ =>
      subst hx
      refine gz_aload_n (pc := 92) cx qd_N_tell_92 rfl rfl ?_
      refine gz_getV (pc := 93) cx qf_N_68 qd_N_tell_93 (gm_N (by assumption)) rfl rfl e13 ?_
      refine gz_ireturn (pc := 96) cx hr rfl qd_N_tell_96 ?_
      exact ⟨rfl, rfl⟩
    | 5, _ =>
      subst hx
      refine gz_aload_n (pc := 97) cx qd_N_tell_97 rfl rfl ?_
      refine gz_getV (pc := 98) cx qf_N_71 qd_N_tell_98 (gm_N (by assumption)) rfl rfl e14 ?_
      refine gz_if_eq (tgt := 108) (pc := 101) cx qd_N_tell_101 (by decide) (fun h101 => ?_) (fun h101 => ?_)
      · refine gz_iconst (v := 0) (pc := 108) cx qd_N_tell_108 (by decide) ?_
        refine gz_ireturn (pc := 109) cx hr rfl qd_N_tell_109 ?_
        refine ⟨?_, rfl⟩
        unfold mTellN
        rw [if_neg (by decide), if_neg (by decide), if_neg (by decide), if_neg (by decide), if_neg (by decide), if_pos (show nI 5 = (5 : Int32) from rfl)]
        first | rw [if_pos h101] | rw [if_neg h101]
      · refine gz_iconst (v := 1) (pc := 104) cx qd_N_tell_104 (by decide) ?_
        refine gz_goto (tgt := 109) (pc := 105) cx qd_N_tell_105 (by decide) ?_
        refine gz_ireturn (pc := 109) cx hr rfl qd_N_tell_109 ?_
        refine ⟨?_, rfl⟩
        unfold mTellN
        rw [if_neg (by decide), if_neg (by decide), if_neg (by decide), if_neg (by decide), if_neg (by decide), if_pos (show nI 5 = (5 : Int32) from rfl)]
        first | rw [if_pos h101] | rw [if_neg h101]
    | 6, _ =>
      subst hx
      refine gz_aload_n (pc := 110) cx qd_N_tell_110 rfl rfl ?_
      refine gz_getV (pc := 111) cx qf_N_59 qd_N_tell_111 (gm_N (by assumption)) rfl rfl e10 ?_
      refine gz_ireturn (pc := 114) cx hr rfl qd_N_tell_114 ?_
      exact ⟨rfl, rfl⟩
    | 7, _ =>
      subst hx
      refine gz_aload_n (pc := 115) cx qd_N_tell_115 rfl rfl ?_
      refine gz_getV (pc := 116) cx qf_N_56 qd_N_tell_116 (gm_N (by assumption)) rfl rfl e9 ?_
      refine gz_ireturn (pc := 119) cx hr rfl qd_N_tell_119 ?_
      exact ⟨rfl, rfl⟩
    | 8, _ =>
      subst hx
      refine gz_aload_n (pc := 120) cx qd_N_tell_120 rfl rfl ?_
      refine gz_callV (pc := 121) cx qv_N_237 qd_N_tell_121 (gc_N_countQueued hI h) (by decide) rfl (gm_N (by assumption)) rfl rfl rfl rfl (Nat.le_of_ble_eq_true rfl) ⟨Nat.zero_le _, Nat.zero_le _⟩ ?_
      rintro _ S' ⟨rfl, hS'⟩
      subst hS'
      refine gz_ireturn (pc := 124) cx hr rfl qd_N_tell_124 ?_
      exact ⟨rfl, rfl⟩
    | 9, _ =>
      subst hx
      refine gz_aload_n (pc := 125) cx qd_N_tell_125 rfl rfl ?_
      refine gz_getV (pc := 126) cx qf_N_53 qd_N_tell_126 (gm_N (by assumption)) rfl rfl e8 ?_
      refine gz_ireturn (pc := 129) cx hr rfl qd_N_tell_129 ?_
      exact ⟨rfl, rfl⟩
    | i + 10, hi => exact absurd hi (by omega)
  · refine gz_iconst (v := 0) (pc := 130) cx qd_N_tell_130 (by decide) ?_
    refine gz_ireturn (pc := 131) cx hr rfl qd_N_tell_131 ?_
    have h0 : x ≠ 0 := hx 0 (by decide)
    have h1 : x ≠ 1 := hx 1 (by decide)
    have h2 : x ≠ 2 := hx 2 (by decide)
    have h3 : x ≠ 3 := hx 3 (by decide)
    have h4 : x ≠ 4 := hx 4 (by decide)
    have h5 : x ≠ 5 := hx 5 (by decide)
    have h6 : x ≠ 6 := hx 6 (by decide)
    have h7 : x ≠ 7 := hx 7 (by decide)
    have h8 : x ≠ 8 := hx 8 (by decide)
    have h9 : x ≠ 9 := hx 9 (by decide)
    exact ⟨by rw [mTellN, if_neg h0, if_neg h1, if_neg h2, if_neg h3, if_neg h4, if_neg h5, if_neg h6, if_neg h7, if_neg h8, if_neg h9], rfl⟩
end
section
/-! the flight's places -/
theorem CR.F {G : gG} {M : mM} {p i0 p' i0' : Nat} {kc kc' : Option (Nat × List Int32)} {S S' : gS} (h : CR G M p i0 kc S) {fl : List (List Int32)} (h1 : ∀ k f, k ≠ (3, 0, 0) → S'.1 k f = S.1 k f) (h2 : ∀ k f, k ≠ (3, 0, 0) → k.1 ≠ 4 → S'.2 k f = S.2 k f) (h3 : S'.2 (3, 0, 0) 2 = S.2 (3, 0, 0) 2) (hF : CF S' fl p' i0' kc') : CR G (mFl M fl) p' i0' kc' S' ∧ gFr S S' := by
  obtain ⟨hK, hE, hN, hL, hC, hF0⟩ := h
  refine ⟨⟨?_, ?_, ?_, ?_, ⟨?_, ?_⟩, hF⟩, fun k hk => ⟨funext fun f => h1 k f (fun e => by rw [e] at hk; simp at hk), funext fun f => h2 k f (fun e => by rw [e] at hk; simp at hk) (by omega)⟩⟩
  · refine hK.of (fun k f k' q => ?_) (fun i => ⟨h1 _ _ (by simp), h1 _ _ (by simp)⟩) (h1 _ _ (by simp))
    by_cases e : k = (3, 0, 0)
    · subst e
      have : f = 2 := by
        have q' : gStat (3, 0, 0) f = some k' := q
        match f, q' with
        | 0, q => cases q
        | 1, q => cases q
        | 2, _ => rfl
        | f + 3, q => cases q
      subst this
      exact h3
    · exact h2 k f e (fun z => by
        obtain ⟨a, b⟩ := k
        simp only at z
        subst z
        cases q)
  · intro i' j' f' hi' hj' hf'
    rw [h1 _ _ (by simp)]; exact hE i' j' f' hi' hj' hf'
  · intro i' f' hi' h5 h18 h8
    rw [h1 _ _ (by simp)]; exact hN i' f' hi' h5 h18 h8
  · intro i' hi'
    exact (hL i' hi').of (h1 _ _ (by simp)) (fun k => h2 _ _ (by simp) (by simp)) (fun k f => h1 _ _ (by simp))
  · intro i' hi'
    obtain ⟨l, a1, a2⟩ := hC.1 i' hi'
    exact ⟨l, by rw [h1 _ _ (by simp)]; exact a1, a2⟩
  · rw [h1 _ _ (by simp)]; exact hC.2
theorem mFl_id {M : mM} : mFl M M.2.2 = M := rfl
theorem isMsg.same {S S' : gS} {a : Nat} {m : List Int32} (h : isMsg S a m) (h1 : ∀ k f, k ≠ (3, 0, 0) → S'.1 k f = S.1 k f) : isMsg S' a m := h.of (fun f _ => h1 _ _ (by simp)) (fun j => h1 _ _ (by simp))
/-- all land -/
theorem CF.land {S : gS} {fl : List (List Int32)} {i0 : Nat} {b : Nat} (h : CF S fl 0 i0 none) (hb : S.2 (3, 0, 0) 0 = some (4, b, 0)) : b < 2 ∧ S.2 (3, 0, 0) 1 = some (4, 1 - b, 0) ∧ fl.length ≤ 60 ∧ S.1 (3, 0, 0) 3 = nI fl.length ∧
    CF (gI (gX (gX S (3, 0, 0) 1 (some (4, b, 0))) (3, 0, 0) 0 (some (4, 1 - b, 0))) (3, 0, 0) 3 0) fl fl.length 0 none := by
  obtain ⟨b', σ, hb2, a1, a2, a3, a4, a5, a6, a7, a8, a9, a10, a11⟩ := h
  have e : b' = b := by
    have := a1.symm.trans hb
    simpa using this
  subst e
  have hl : fl.length ≤ 60 := by omega
  refine ⟨hb2, a2, hl, a7, 1 - b', σ, by omega, ?_, ?_, fun c k hc hk => ?_, a4, Nat.le_refl _, by omega, ?_, fun k hk => absurd hk (by omega), by omega, fun q hq => ?_, fun a msg q => by cases q⟩
  · rw [gI2, gX2, if_pos ⟨rfl, rfl⟩]
  · rw [gI2, gX2, if_neg (fun q => by simp at q), gX2, if_pos ⟨rfl, rfl⟩]
    have : 1 - (1 - b') = b' := by omega
    rw [this]
  · rw [gI2, gX2, if_neg (fun q => by simp at q), gX2, if_neg (fun q => by simp at q)]
    exact a3 c k hc hk
  · rw [gI1, if_pos ⟨rfl, rfl⟩, Nat.sub_self]; rfl
  · have e1 : 1 - (1 - b') = b' := by omega
    have := a8 q (by omega)
    rw [Nat.zero_add] at this
    rw [e1, Nat.zero_add]
    exact this.same (fun k f hk => by rw [gI1, if_neg (fun q => hk q.1)]; rfl)
/-- the next of those that landed is taken -/
theorem CF.take {S : gS} {fl : List (List Int32)} {p x : Nat} (h : CF S fl (p + 1) x none) : ∃ (b a : Nat) (msg : List Int32) (r : List (List Int32)), b < 2 ∧ S.2 (3, 0, 0) 1 = some (4, b, 0) ∧ x < 60 ∧ S.2 (4, b, 0) x = some (5, a, 0) ∧ a < 121 ∧ fl = msg :: r ∧ CF S r p (x + 1) (some (a, msg)) := by
  obtain ⟨b, σ, hb, a1, a2, a3, a4, a5, a6, a7, a8, a9, a10, a11⟩ := h
  obtain ⟨msg, r, rfl⟩ : ∃ msg r, fl = msg :: r := by
    cases fl with
    | nil => simp at a5
    | cons m r => exact ⟨m, r, rfl⟩
  simp only [List.length_cons] at a5 a6 a7 a8
  have hx := a3 (1 - b) x (by omega) (by omega)
  refine ⟨1 - b, σ (1 - b) x, msg, r, by omega, a2, by omega, hx.1, by omega, rfl, b, σ, hb, a1, a2, a3, a4, by omega, by omega, ?_, fun k hk => ?_, by omega, fun q hq => ?_, fun a m q => ?_⟩
  · rw [a7]; congr 1; omega
  · have := a8 k (by omega)
    have e : p + 1 + k = p + k + 1 := by omega
    rw [e] at this
    exact this
  · have := a10 (q + 1) (by omega)
    have e : x + (q + 1) = x + 1 + q := by omega
    rw [e] at this
    exact this
  · cases q
    exact ⟨by omega, rfl, a10 0 (by omega)⟩
theorem CF.done {S : gS} {fl : List (List Int32)} {p i0 : Nat} {kc : Option (Nat × List Int32)} (h : CF S fl p i0 kc) : CF S fl p i0 none := by
  obtain ⟨b, σ, hb, a1, a2, a3, a4, a5, a6, a7, a8, a9, a10, a11⟩ := h
  exact ⟨b, σ, hb, a1, a2, a3, a4, a5, a6, a7, a8, a9, a10, fun a m q => by cases q⟩
theorem CF.rest {S : gS} {fl : List (List Int32)} {i0 j0 : Nat} (h : CF S fl 0 i0 none) (hj : j0 ≤ 60) : CF S fl 0 j0 none := by
  obtain ⟨b, σ, hb, a1, a2, a3, a4, a5, a6, a7, a8, a9, a10, a11⟩ := h
  exact ⟨b, σ, hb, a1, a2, a3, a4, a5, a6, a7, a8, by omega, fun q hq => absurd hq (by omega), fun a m q => by cases q⟩
/-- one is lost -/
def sLose (S : gS) (b k len : Nat) : gS := gX (gI (sShift S (4, b, 0) k (len - 1)) (3, 0, 0) 3 (nI (len - 1))) (4, b, 0) (len - 1) (S.2 (4, b, 0) k)
theorem rhoE_cs (ρ : Nat → Nat) (k len x : Nat) (hk : k < len) : (x < k ∧ rhoE ρ k len x = ρ x) ∨ (k ≤ x ∧ x < len - 1 ∧ rhoE ρ k len x = ρ (x + 1)) ∨ (x = len - 1 ∧ rhoE ρ k len x = ρ k) ∨ (len ≤ x ∧ rhoE ρ k len x = ρ x) := by
  unfold rhoE
  by_cases e1 : x < k
  · exact Or.inl ⟨e1, by rw [if_pos e1]⟩
  · by_cases e2 : x < len - 1
    · exact Or.inr (Or.inl ⟨by omega, e2, by rw [if_neg e1, if_pos e2]⟩)
    · by_cases e3 : x = len - 1
      · exact Or.inr (Or.inr (Or.inl ⟨e3, by rw [if_neg e1, if_neg e2, if_pos e3]⟩))
      · exact Or.inr (Or.inr (Or.inr ⟨by omega, by rw [if_neg e1, if_neg e2, if_neg e3]⟩))
/-- where place x's message was before -/
theorem rhoE_src (ρ : Nat → Nat) (k len x : Nat) (hk : k < len) : ∃ y, rhoE ρ k len x = ρ y ∧ (x < 60 → len ≤ 60 → y < 60) := by
  rcases rhoE_cs ρ k len x hk with ⟨a, b⟩ | ⟨a, c, b⟩ | ⟨a, b⟩ | ⟨a, b⟩
  · exact ⟨x, b, fun h _ => h⟩
  · exact ⟨x + 1, b, fun _ _ => by omega⟩
  · exact ⟨k, b, fun _ _ => by omega⟩
  · exact ⟨x, b, fun h _ => h⟩
theorem CF.lose {S : gS} {fl : List (List Int32)} {i0 k b : Nat} (h : CF S fl 0 i0 none) (hb : S.2 (3, 0, 0) 0 = some (4, b, 0)) (hk : k < fl.length) : CF (sLose S b k fl.length) (fl.eraseIdx k) 0 i0 none := by
  obtain ⟨b', σ, hb2, a1, a2, a3, a4, a5, a6, a7, a8, a9, a10, a11⟩ := h
  have e : b' = b := by
    have := a1.symm.trans hb
    simpa using this
  subst e
  have hl : fl.length ≤ 60 := by omega
  have hle : (fl.eraseIdx k).length = fl.length - 1 := List.length_eraseIdx_of_lt hk
  refine ⟨b', fun c x => if c = b' then rhoE (σ b') k fl.length x else σ c x, hb2, ?_, ?_, fun c x hc hx => ?_, fun c x c' x' hc hx hc' hx' q => ?_, by omega, by omega, ?_, fun x hx => ?_, by omega, fun q hq => absurd hq (by omega), fun a m q => by cases q⟩
  · show (gX _ _ _ _).2 _ _ = _
    rw [gX2, if_neg (fun q => by simp at q)]
    rw [gI2, sShift_ne (by simp)]; exact a1
  · show (gX _ _ _ _).2 _ _ = _
    rw [gX2, if_neg (fun q => by simp at q)]
    rw [gI2, sShift_ne (by simp)]; exact a2
  · show (gX _ _ _ _).2 _ _ = _ ∧ _
    dsimp only
    by_cases ec : c = b'
    · subst ec
      rw [if_pos rfl, gX2]
      rcases rhoE_cs (σ c) k fl.length x hk with ⟨r1, r2⟩ | ⟨r1, r3, r2⟩ | ⟨r1, r2⟩ | ⟨r1, r2⟩
      · rw [if_neg (by omega), r2]
        show (sShift S (4, c, 0) k (fl.length - 1)).2 (4, c, 0) x = _ ∧ _
        rw [sShift_at, if_neg (by omega)]; exact a3 c x hc hx
      · rw [if_neg (by omega), r2]
        show (sShift S (4, c, 0) k (fl.length - 1)).2 (4, c, 0) x = _ ∧ _
        rw [sShift_at, if_pos ⟨r1, r3⟩]; exact a3 c (x + 1) hc (by omega)
      · rw [if_pos ⟨rfl, r1⟩, r2]; exact a3 c k hc (by omega)
      · rw [if_neg (by omega), r2]
        show (sShift S (4, c, 0) k (fl.length - 1)).2 (4, c, 0) x = _ ∧ _
        rw [sShift_at, if_neg (by omega)]; exact a3 c x hc hx
    · rw [if_neg ec, gX2, if_neg (fun q => ec (by simpa using q.1))]
      show (sShift S (4, b', 0) k (fl.length - 1)).2 (4, c, 0) x = _ ∧ _
      rw [sShift_ne (fun q => ec (by simpa using q))]
      exact a3 c x hc hx
  · dsimp only at q
    by_cases ec : c = b' <;> by_cases ec' : c' = b'
    · subst ec; subst ec'
      rw [if_pos rfl, if_pos rfl] at q
      refine ⟨rfl, ?_⟩
      rcases rhoE_cs (σ c') k fl.length x hk with ⟨r1, r2⟩ | ⟨r1, r3, r2⟩ | ⟨r1, r2⟩ | ⟨r1, r2⟩ <;> rcases rhoE_cs (σ c') k fl.length x' hk with ⟨s1, s2⟩ | ⟨s1, s3, s2⟩ | ⟨s1, s2⟩ | ⟨s1, s2⟩ <;> (rw [r2, s2] at q; have := (a4 _ _ _ _ hc (by omega) hc (by omega) q).2; omega)
    · subst ec
      rw [if_pos rfl, if_neg ec'] at q
      obtain ⟨y, y1, y2⟩ := rhoE_src (σ c) k fl.length x hk
      rw [y1] at q
      exact absurd (a4 _ _ _ _ hc (y2 hx hl) hc' hx' q).1 (fun z => ec' z.symm)
    · subst ec'
      rw [if_neg ec, if_pos rfl] at q
      obtain ⟨y, y1, y2⟩ := rhoE_src (σ c') k fl.length x' hk
      rw [y1] at q
      exact absurd (a4 _ _ _ _ hc hx hc' (y2 hx' hl) q).1 ec
    · rw [if_neg ec, if_neg ec'] at q
      exact a4 _ _ _ _ hc hx hc' hx' q
  · unfold sLose
    rw [gX1, gI1, if_pos ⟨rfl, rfl⟩, hle]
    congr 1
  · rw [hle] at hx
    dsimp only
    rw [if_pos rfl, Nat.zero_add, getD_erase]
    have hs : ∀ y, y < fl.length → isMsg (sLose S b' k fl.length) (σ b' y) (fl.getD y []) := fun y hy => by
      have := a8 y (by omega)
      rw [Nat.zero_add] at this
      exact this.same (fun k2 f hk2 => by unfold sLose; rw [gX1, gI1, if_neg (fun q => hk2 q.1)]; rfl)
    rcases rhoE_cs (σ b') k fl.length x hk with ⟨r1, r2⟩ | ⟨r1, r3, r2⟩ | ⟨r1, r2⟩ | ⟨r1, r2⟩
    · rw [r2, if_pos r1]; exact hs x (by omega)
    · rw [r2, if_neg (by omega)]; exact hs (x + 1) (by omega)
    · omega
    · omega
/-- two change places -/
def sSwap (S : gS) (b k : Nat) : gS := gX (gX S (4, b, 0) k (S.2 (4, b, 0) (k + 1))) (4, b, 0) (k + 1) (S.2 (4, b, 0) k)
def mSw (x k : Nat) : Nat := if x = k then k + 1 else if x = k + 1 then k else x
def mSwap (fl : List (List Int32)) (k : Nat) : List (List Int32) := (fl.set k (fl.getD (k + 1) [])).set (k + 1) (fl.getD k [])
theorem mSwap_at {fl : List (List Int32)} {k x : Nat} (hk : k + 1 < fl.length) : (mSwap fl k).getD x [] = fl.getD (mSw x k) [] := by
  unfold mSwap mSw
  rw [List.getD_eq_getElem?_getD]
  by_cases e2 : x = k + 1
  · subst e2
    rw [List.getElem?_set_self (by rw [List.length_set]; omega), if_neg (by omega), if_pos rfl]; rfl
  · rw [List.getElem?_set_ne (Ne.symm e2)]
    by_cases e1 : x = k
    · subst e1
      rw [List.getElem?_set_self (by omega), if_pos rfl]; rfl
    · rw [List.getElem?_set_ne (Ne.symm e1), if_neg e1, if_neg e2, ← List.getD_eq_getElem?_getD]
theorem CF.swap {S : gS} {fl : List (List Int32)} {i0 k b : Nat} (h : CF S fl 0 i0 none) (hb : S.2 (3, 0, 0) 0 = some (4, b, 0)) (hk : k + 1 < fl.length) : CF (sSwap S b k) (mSwap fl k) 0 i0 none := by
  obtain ⟨b', σ, hb2, a1, a2, a3, a4, a5, a6, a7, a8, a9, a10, a11⟩ := h
  have e : b' = b := by
    have := a1.symm.trans hb
    simpa using this
  subst e
  have hl : fl.length ≤ 60 := by omega
  have hle : (mSwap fl k).length = fl.length := by unfold mSwap; rw [List.length_set, List.length_set]
  have hsw : ∀ x, x < 60 → mSw x k < 60 := fun x hx => by unfold mSw; split <;> (try split) <;> omega
  have hswi : ∀ x y, mSw x k = mSw y k → x = y := fun x y q => by unfold mSw at q; split at q <;> (try split at q) <;> (try split at q) <;> (try split at q) <;> omega
  refine ⟨b', fun c x => if c = b' then σ b' (mSw x k) else σ c x, hb2, ?_, ?_, fun c x hc hx => ?_, fun c x c' x' hc hx hc' hx' q => ?_, by omega, by omega, ?_, fun x hx => ?_, by omega, fun q hq => absurd hq (by omega), fun a m q => by cases q⟩
  · show (gX _ _ _ _).2 _ _ = _
    rw [gX2, if_neg (fun q => by simp at q), gX2, if_neg (fun q => by simp at q)]; exact a1
  · show (gX _ _ _ _).2 _ _ = _
    rw [gX2, if_neg (fun q => by simp at q), gX2, if_neg (fun q => by simp at q)]; exact a2
  · show (gX _ _ _ _).2 _ _ = _ ∧ _
    dsimp only
    by_cases ec : c = b'
    · subst ec
      rw [if_pos rfl, gX2, gX2]
      have := a3 c (mSw x k) hc (hsw x hx)
      unfold mSw at this ⊢
      by_cases e2 : x = k + 1
      · rw [if_pos ⟨rfl, e2⟩]
        rw [if_neg (by omega), if_pos e2] at this ⊢
        exact this
      · rw [if_neg (fun q => e2 q.2)]
        by_cases e1 : x = k
        · rw [if_pos ⟨rfl, e1⟩]
          rw [if_pos e1] at this ⊢
          exact this
        · rw [if_neg (fun q => e1 q.2)]
          rw [if_neg e1, if_neg e2] at this ⊢
          exact this
    · rw [if_neg ec, gX2, if_neg (fun q => ec (by simpa using q.1)), gX2, if_neg (fun q => ec (by simpa using q.1))]
      exact a3 c x hc hx
  · dsimp only at q
    by_cases ec : c = b' <;> by_cases ec' : c' = b'
    · subst ec; subst ec'
      rw [if_pos rfl, if_pos rfl] at q
      exact ⟨rfl, hswi _ _ (a4 _ _ _ _ hc (hsw x hx) hc (hsw x' hx') q).2⟩
    · subst ec
      rw [if_pos rfl, if_neg ec'] at q
      exact absurd (a4 _ _ _ _ hc (hsw x hx) hc' hx' q).1 (fun z => ec' z.symm)
    · subst ec'
      rw [if_neg ec, if_pos rfl] at q
      exact absurd (a4 _ _ _ _ hc hx hc' (hsw x' hx') q).1 ec
    · rw [if_neg ec, if_neg ec'] at q
      exact a4 _ _ _ _ hc hx hc' hx' q
  · rw [hle]; exact a7
  · rw [hle] at hx
    dsimp only
    rw [if_pos rfl, Nat.zero_add, mSwap_at hk]
    have hlt : mSw x k < fl.length := by unfold mSw; split <;> (try split) <;> omega
    have := a8 (mSw x k) (by omega)
    rw [Nat.zero_add] at this
    exact this
end
section
theorem bB_t {b : Bool} (h : ¬ bI b = 0) : b = true := by
  cases b with
  | true => rfl
  | false => exact absurd rfl h
theorem bB_f {b : Bool} (h : bI b = 0) : b = false := by
  cases b with
  | true => exact absurd h (by decide)
  | false => rfl
theorem bI_z {b : Bool} : narrow .boolean (.int (bI b)) = .int (bI b) := by cases b <;> decide
theorem mIs_f1 {n : Nat} {x : Int32} (h : x < 0) : mIs n x = false := decide_eq_false (fun q => absurd h (Int32.not_lt.mpr q.1))
theorem mIs_f2 {n : Nat} {x : Int32} (h : nI n ≤ x) : mIs n x = false := decide_eq_false (fun q => absurd q.2 (Int32.not_lt.mpr h))
theorem mIs_t {n : Nat} {x : Int32} (h : ¬ x < 0) (h2 : ¬ nI n ≤ x) : mIs n x = true := decide_eq_true ⟨Int32.not_lt.mp h, Int32.not_le.mp h2⟩
theorem mIs_nI {n j : Nat} (h : j < n) (hn : n < 2 ^ 31) : mIs n (nI j) = true := (mIs_iff hn).mpr ⟨j, h, rfl⟩
theorem mRun_nI {n j : Nat} {M : mM} (h : j < n) (hn : n < 2 ^ 31) : mRun n M (nI j) = !decide (M.1 15 j 0 = 0) := by
  unfold mRun
  rw [mIs_nI h hn, nI_clamp (by omega)]; rfl
def oDrop (M : mM) (x : Int32) : mM := if mIs M.2.2.length x = true then mFl M (M.2.2.eraseIdx x.toNatClampNeg) else M
def oSwap (M : mM) (x : Int32) : mM := if mIs (M.2.2.length - 1) x = true then mFl M (mSwap M.2.2 x.toNatClampNeg) else M
theorem gc_F_lose {G : gG} {la : Launch} {M : mM} {S : gS} {x : Int32} (h : CR G M 0 0 none S) : gM G la qy_F_lose qw_F_lose 0 0 0 (gTt G) (gTt G) [.inr (some (3, 0, 0)), .inl x] S (fun v S' => v = some (.inl (bI (mIs M.2.2.length x))) ∧ CR G (oDrop M x) 0 0 none S' ∧ gFr S S') := by
  refine gM_of (cc := qc_F_lose) (maxL := 4) (by decide) rfl (Nat.le_of_ble_eq_true rfl) ?_
  intro E cx hr hnm hcz hsz hEl
  subst hEl
  have hF := h.2.2.2.2.2
  obtain ⟨b, σ, hb, a1, a2, a3, a4, a5, a6, a7, a8, a9, a10, a11⟩ := h.2.2.2.2.2
  rw [Nat.sub_zero] at a6 a7
  refine gz_iload_n (pc := 0) cx qd_F_lose_0 rfl rfl ?_
  refine gz_if_lt (tgt := 12) (pc := 1) cx qd_F_lose_1 (by decide) (fun h1 => ?_) (fun h1 => ?_)
  · refine gz_iconst (v := 0) (pc := 12) cx qd_F_lose_12 (by decide) ?_
    refine gz_ireturn (pc := 13) cx hr (by decide) qd_F_lose_13 ?_
    unfold oDrop
    rw [mIs_f1 h1]
    exact ⟨rfl, h, gFr.rf⟩
  · refine gz_iload_n (pc := 4) cx qd_F_lose_4 rfl rfl ?_
    refine gz_aload_n (pc := 5) cx qd_F_lose_5 rfl rfl ?_
    refine gz_getV (pc := 6) cx qf_F_23 qd_F_lose_6 gm_F rfl rfl a7 ?_
    refine gz_icmp_lt (tgt := 14) (pc := 9) cx qd_F_lose_9 (by decide) (fun h9 => ?_) (fun h9 => ?_)
    · obtain ⟨k, hk, rfl⟩ := (mIs_iff (by omega)).mp (mIs_t h1 (Int32.not_le.mpr h9))
      have hpred : nI M.2.2.length - 1 = nI (M.2.2.length - 1) := by
        obtain ⟨z, hz⟩ : ∃ z, M.2.2.length = z + 1 := ⟨M.2.2.length - 1, by omega⟩
        rw [hz]; exact nI_pred z
      suffices hh : ∀ y, y ≤ M.2.2.length - 1 → k ≤ y → gZ G E 0 0 (gEnd G E 0 0 (gTt G) (fun v S' => v = some (.inl (bI (mIs M.2.2.length (nI k)))) ∧ CR G (oDrop M (nI k)) 0 0 none S' ∧ gFr S S')) (gTt G) 23 [some (.inr (some (3, 0, 0))), some (.inl (nI k)), some (.inr (some (5, σ b k, 0))), some (.inl (nI y))] [] (sShift S (4, b, 0) k y) by
        refine gz_aload_n (pc := 14) cx qd_F_lose_14 rfl rfl ?_
        refine gz_getR (pc := 15) cx qf_F_11 qd_F_lose_15 gm_F rfl rfl a1 ?_
        refine gz_iload_n (pc := 18) cx qd_F_lose_18 rfl rfl ?_
        refine gz_aaload (pc := 19) cx qd_F_lose_19 (by first | exact gm_tb (by assumption) | exact gm_ns | exact gm_cf | exact gm_w (by assumption) | exact gm_nw (by assumption) | exact gm_rs (by assumption) | exact gm_M (by assumption) | exact gm_R (by assumption) (by assumption) | exact gm_za (by decide) (by decide)) rfl ⟨by decide, by decide, rfl⟩ (a3 b k hb (by omega)).1 rfl (by omega) (by decide) ?_
        refine gz_astore_n (pc := 20) cx qd_F_lose_20 rfl (Nat.le_of_ble_eq_true rfl) ?_
        refine gz_iload_n (pc := 21) cx qd_F_lose_21 rfl rfl ?_
        refine gz_istore_n (pc := 22) cx qd_F_lose_22 rfl (Nat.le_of_ble_eq_true rfl) ?_
        have h0 := hh k (by omega) (Nat.le_refl _)
        rw [sShift_0] at h0
        exact h0
      refine g_upto ?_ ?_
      · intro hky
        refine gz_iload_n (pc := 23) cx qd_F_lose_23 rfl rfl ?_
        refine gz_aload_n (pc := 24) cx qd_F_lose_24 rfl rfl ?_
        refine gz_getV (pc := 25) cx qf_F_23 qd_F_lose_25 gm_F rfl rfl a7 ?_
        refine gz_iconst (v := 1) (pc := 28) cx qd_F_lose_28 (by decide) ?_
        refine gz_isub (pc := 29) cx qd_F_lose_29 ?_
        refine gz_icmp_ge (tgt := 53) (pc := 30) cx qd_F_lose_30 (by decide) (fun _ => ?_) (fun h30 => absurd (by rw [hpred]; exact Int32.le_refl _) h30)
        refine gz_aload_n (pc := 53) cx qd_F_lose_53 rfl rfl ?_
        refine gz_dup (pc := 54) cx qd_F_lose_54 ?_
        refine gz_getV (pc := 55) cx qf_F_23 qd_F_lose_55 gm_F rfl rfl a7 ?_
        refine gz_iconst (v := 1) (pc := 58) cx qd_F_lose_58 (by decide) ?_
        refine gz_isub (pc := 59) cx qd_F_lose_59 ?_
        refine gz_putI (pc := 60) cx qp_F_23 qd_F_lose_60 gm_F rfl rfl ⟨rfl, rfl⟩ (fun h => nomatch h) ?_
        refine gz_aload_n (pc := 63) cx qd_F_lose_63 rfl rfl ?_
        refine gz_getR (pc := 64) cx qf_F_11 qd_F_lose_64 gm_F rfl rfl (show (sShift S (4, b, 0) k (M.2.2.length - 1)).2 (3, 0, 0) 0 = some (4, b, 0) from (sShift_ne (by simp)).trans a1) ?_
        refine gz_aload_n (pc := 67) cx qd_F_lose_67 rfl rfl ?_
        refine gz_getV (pc := 68) cx qf_F_23 qd_F_lose_68 gm_F rfl rfl (show _ = nI M.2.2.length - 1 by rw [gI1, if_pos ⟨rfl, rfl⟩]) ?_
        refine gz_aload_n (pc := 71) cx qd_F_lose_71 rfl rfl ?_
        refine gz_aastore (pc := 72) cx qd_F_lose_72 (by first | exact gm_tb (by assumption) | exact gm_ns | exact gm_cf | exact gm_w (by assumption) | exact gm_nw (by assumption) | exact gm_rs (by assumption) | exact gm_M (by assumption) | exact gm_R (by assumption) (by assumption) | exact gm_za (by decide) (by decide)) (gm_M (show σ b k < 121 by have := (a3 b k hb (by omega)).2; omega)) rfl rfl ⟨by decide, by decide, rfl⟩ rfl hpred (by omega) (by decide) ?_
        refine gz_iconst (v := 1) (pc := 73) cx qd_F_lose_73 (by decide) ?_
        refine gz_ireturn (pc := 74) cx hr (by decide) qd_F_lose_74 ?_
        obtain ⟨c1, f1⟩ := h.F (S' := sLose S b k M.2.2.length) (fun k2 f hne => by unfold sLose; rw [gX1, gI1, if_neg (fun q => hne q.1)]; rfl) (fun k2 f hne h4 => by unfold sLose; rw [gX2, if_neg (fun q => h4 (by rw [q.1])), gI2, sShift_ne (fun q => h4 (by rw [q]))]) (by unfold sLose; rw [gX2, if_neg (fun q => by simp at q), gI2, sShift_ne (by simp)]) (hF.lose a1 hk)
        refine ⟨by rw [mIs_nI hk (by omega)]; rfl, ?_, ?_⟩
        · unfold oDrop
          rw [if_pos (mIs_nI hk (by omega)), nI_clamp (by omega)]
          unfold sLose at c1
          rw [(a3 b k hb (by omega)).1, ← hpred] at c1
          exact c1
        · unfold sLose at f1
          rw [(a3 b k hb (by omega)).1, ← hpred] at f1
          exact f1
      · intro y hy ih hky
        refine gz_iload_n (pc := 23) cx qd_F_lose_23 rfl rfl ?_
        refine gz_aload_n (pc := 24) cx qd_F_lose_24 rfl rfl ?_
        refine gz_getV (pc := 25) cx qf_F_23 qd_F_lose_25 gm_F rfl rfl a7 ?_
        refine gz_iconst (v := 1) (pc := 28) cx qd_F_lose_28 (by decide) ?_
        refine gz_isub (pc := 29) cx qd_F_lose_29 ?_
        refine gz_icmp_ge (tgt := 53) (pc := 30) cx qd_F_lose_30 (by decide) (fun h30 => absurd h30 (by rw [hpred]; exact nI_ge hy (by omega))) (fun _ => ?_)
        refine gz_aload_n (pc := 33) cx qd_F_lose_33 rfl rfl ?_
        refine gz_getR (pc := 34) cx qf_F_11 qd_F_lose_34 gm_F rfl rfl (show (sShift S (4, b, 0) k y).2 (3, 0, 0) 0 = some (4, b, 0) from (sShift_ne (by simp)).trans a1) ?_
        refine gz_iload_n (pc := 37) cx qd_F_lose_37 rfl rfl ?_
        refine gz_aload_n (pc := 38) cx qd_F_lose_38 rfl rfl ?_
        refine gz_getR (pc := 39) cx qf_F_11 qd_F_lose_39 gm_F rfl rfl (show (sShift S (4, b, 0) k y).2 (3, 0, 0) 0 = some (4, b, 0) from (sShift_ne (by simp)).trans a1) ?_
        refine gz_iload_n (pc := 42) cx qd_F_lose_42 rfl rfl ?_
        refine gz_iconst (v := 1) (pc := 43) cx qd_F_lose_43 (by decide) ?_
        refine gz_iadd (pc := 44) cx qd_F_lose_44 ?_
        refine gz_aaload (pc := 45) cx qd_F_lose_45 (by first | exact gm_tb (by assumption) | exact gm_ns | exact gm_cf | exact gm_w (by assumption) | exact gm_nw (by assumption) | exact gm_rs (by assumption) | exact gm_M (by assumption) | exact gm_R (by assumption) (by assumption) | exact gm_za (by decide) (by decide)) rfl ⟨by decide, by decide, rfl⟩ (show _ = some (5, σ b (y + 1), 0) by rw [sShift_at, if_neg (by omega)]; exact (a3 b (y + 1) hb (by omega)).1) (nI_succ y).symm (by omega) (by decide) ?_
        refine gz_aastore (pc := 46) cx qd_F_lose_46 (by first | exact gm_tb (by assumption) | exact gm_ns | exact gm_cf | exact gm_w (by assumption) | exact gm_nw (by assumption) | exact gm_rs (by assumption) | exact gm_M (by assumption) | exact gm_R (by assumption) (by assumption) | exact gm_za (by decide) (by decide)) (gm_M (show σ b (y + 1) < 121 by have := (a3 b (y + 1) hb (by omega)).2; omega)) rfl rfl ⟨by decide, by decide, rfl⟩ rfl rfl (by omega) (by decide) ?_
        refine gz_iinc (pc := 47) cx qd_F_lose_47 rfl (g_inc y) ?_
        refine gz_goto (tgt := 23) (pc := 50) cx qd_F_lose_50 (by decide) ?_
        rw [← (a3 b (y + 1) hb (by omega)).1, sShift_s hky]
        exact ih (by omega)
    · refine gz_iconst (v := 0) (pc := 12) cx qd_F_lose_12 (by decide) ?_
      refine gz_ireturn (pc := 13) cx hr (by decide) qd_F_lose_13 ?_
      unfold oDrop
      rw [mIs_f2 (Int32.not_lt.mp h9)]
      exact ⟨rfl, h, gFr.rf⟩
theorem gc_F_overtake {G : gG} {la : Launch} {M : mM} {S : gS} {x : Int32} (h : CR G M 0 0 none S) : gM G la qy_F_overtake qw_F_overtake 0 0 0 (gTt G) (gTt G) [.inr (some (3, 0, 0)), .inl x] S (fun v S' => v = some (.inl (bI (mIs (M.2.2.length - 1) x))) ∧ CR G (oSwap M x) 0 0 none S' ∧ gFr S S') := by
  refine gM_of (cc := qc_F_overtake) (maxL := 3) (by decide) rfl (Nat.le_of_ble_eq_true rfl) ?_
  intro E cx hr hnm hcz hsz hEl
  subst hEl
  have hF := h.2.2.2.2.2
  obtain ⟨b, σ, hb, a1, a2, a3, a4, a5, a6, a7, a8, a9, a10, a11⟩ := h.2.2.2.2.2
  rw [Nat.sub_zero] at a6 a7
  refine gz_iload_n (pc := 0) cx qd_F_overtake_0 rfl rfl ?_
  refine gz_if_lt (tgt := 14) (pc := 1) cx qd_F_overtake_1 (by decide) (fun h1 => ?_) (fun h1 => ?_)
  · refine gz_iconst (v := 0) (pc := 14) cx qd_F_overtake_14 (by decide) ?_
    refine gz_ireturn (pc := 15) cx hr (by decide) qd_F_overtake_15 ?_
    unfold oSwap
    rw [mIs_f1 h1]
    exact ⟨rfl, h, gFr.rf⟩
  · refine gz_iload_n (pc := 4) cx qd_F_overtake_4 rfl rfl ?_
    refine gz_aload_n (pc := 5) cx qd_F_overtake_5 rfl rfl ?_
    refine gz_getV (pc := 6) cx qf_F_23 qd_F_overtake_6 gm_F rfl rfl a7 ?_
    refine gz_iconst (v := 1) (pc := 9) cx qd_F_overtake_9 (by decide) ?_
    refine gz_isub (pc := 10) cx qd_F_overtake_10 ?_
    refine gz_icmp_lt (tgt := 16) (pc := 11) cx qd_F_overtake_11 (by decide) (fun h11 => ?_) (fun h11 => ?_)
    · have hl1 : 1 ≤ M.2.2.length := by
        apply Classical.byContradiction
        intro q
        have e : M.2.2.length = 0 := by omega
        rw [e] at h11
        exact h1 (Int32.lt_trans h11 (by decide))
      have hpred : nI M.2.2.length - 1 = nI (M.2.2.length - 1) := by
        obtain ⟨z, hz⟩ : ∃ z, M.2.2.length = z + 1 := ⟨M.2.2.length - 1, by omega⟩
        rw [hz]; exact nI_pred z
      rw [hpred] at h11
      obtain ⟨k, hk, rfl⟩ := (mIs_iff (by omega)).mp (mIs_t h1 (Int32.not_le.mpr h11))
      have e1 := (a3 b k hb (by omega))
      have e2 := (a3 b (k + 1) hb (by omega))
      refine gz_aload_n (pc := 16) cx qd_F_overtake_16 rfl rfl ?_
      refine gz_getR (pc := 17) cx qf_F_11 qd_F_overtake_17 gm_F rfl rfl a1 ?_
      refine gz_iload_n (pc := 20) cx qd_F_overtake_20 rfl rfl ?_
      refine gz_aaload (pc := 21) cx qd_F_overtake_21 (by first | exact gm_tb (by assumption) | exact gm_ns | exact gm_cf | exact gm_w (by assumption) | exact gm_nw (by assumption) | exact gm_rs (by assumption) | exact gm_M (by assumption) | exact gm_R (by assumption) (by assumption) | exact gm_za (by decide) (by decide)) rfl ⟨by decide, by decide, rfl⟩ e1.1 rfl (by omega) (by decide) ?_
      refine gz_astore_n (pc := 22) cx qd_F_overtake_22 rfl (Nat.le_of_ble_eq_true rfl) ?_
      refine gz_aload_n (pc := 23) cx qd_F_overtake_23 rfl rfl ?_
      refine gz_getR (pc := 24) cx qf_F_11 qd_F_overtake_24 gm_F rfl rfl a1 ?_
      refine gz_iload_n (pc := 27) cx qd_F_overtake_27 rfl rfl ?_
      refine gz_aload_n (pc := 28) cx qd_F_overtake_28 rfl rfl ?_
      refine gz_getR (pc := 29) cx qf_F_11 qd_F_overtake_29 gm_F rfl rfl a1 ?_
      refine gz_iload_n (pc := 32) cx qd_F_overtake_32 rfl rfl ?_
      refine gz_iconst (v := 1) (pc := 33) cx qd_F_overtake_33 (by decide) ?_
      refine gz_iadd (pc := 34) cx qd_F_overtake_34 ?_
      refine gz_aaload (pc := 35) cx qd_F_overtake_35 (by first | exact gm_tb (by assumption) | exact gm_ns | exact gm_cf | exact gm_w (by assumption) | exact gm_nw (by assumption) | exact gm_rs (by assumption) | exact gm_M (by assumption) | exact gm_R (by assumption) (by assumption) | exact gm_za (by decide) (by decide)) rfl ⟨by decide, by decide, rfl⟩ e2.1 (nI_succ k).symm (by omega) (by decide) ?_
      refine gz_aastore (pc := 36) cx qd_F_overtake_36 (by first | exact gm_tb (by assumption) | exact gm_ns | exact gm_cf | exact gm_w (by assumption) | exact gm_nw (by assumption) | exact gm_rs (by assumption) | exact gm_M (by assumption) | exact gm_R (by assumption) (by assumption) | exact gm_za (by decide) (by decide)) (gm_M (show σ b (k + 1) < 121 by have := e2.2; omega)) rfl rfl ⟨by decide, by decide, rfl⟩ rfl rfl (by omega) (by decide) ?_
      refine gz_aload_n (pc := 37) cx qd_F_overtake_37 rfl rfl ?_
      refine gz_getR (pc := 38) cx qf_F_11 qd_F_overtake_38 gm_F rfl rfl (show (gX S (4, b, 0) k _).2 (3, 0, 0) 0 = some (4, b, 0) by rw [gX2, if_neg (fun q => by simp at q)]; exact a1) ?_
      refine gz_iload_n (pc := 41) cx qd_F_overtake_41 rfl rfl ?_
      refine gz_iconst (v := 1) (pc := 42) cx qd_F_overtake_42 (by decide) ?_
      refine gz_iadd (pc := 43) cx qd_F_overtake_43 ?_
      refine gz_aload_n (pc := 44) cx qd_F_overtake_44 rfl rfl ?_
      refine gz_aastore (pc := 45) cx qd_F_overtake_45 (by first | exact gm_tb (by assumption) | exact gm_ns | exact gm_cf | exact gm_w (by assumption) | exact gm_nw (by assumption) | exact gm_rs (by assumption) | exact gm_M (by assumption) | exact gm_R (by assumption) (by assumption) | exact gm_za (by decide) (by decide)) (gm_M (show σ b k < 121 by have := e1.2; omega)) rfl rfl ⟨by decide, by decide, rfl⟩ rfl (nI_succ k).symm (by omega) (by decide) ?_
      refine gz_iconst (v := 1) (pc := 46) cx qd_F_overtake_46 (by decide) ?_
      refine gz_ireturn (pc := 47) cx hr (by decide) qd_F_overtake_47 ?_
      obtain ⟨c1, f1⟩ := h.F (S' := sSwap S b k) (fun k2 f hne => rfl) (fun k2 f hne h4 => by unfold sSwap; rw [gX2, if_neg (fun q => h4 (by rw [q.1])), gX2, if_neg (fun q => h4 (by rw [q.1]))]) (by unfold sSwap; rw [gX2, if_neg (fun q => by simp at q), gX2, if_neg (fun q => by simp at q)]) (hF.swap a1 (k := k) (by omega))
      refine ⟨by rw [mIs_nI hk (by omega)]; rfl, ?_, ?_⟩
      · unfold oSwap
        rw [if_pos (mIs_nI hk (by omega)), nI_clamp (by omega)]
        unfold sSwap at c1
        rw [e1.1, e2.1] at c1
        exact c1
      · unfold sSwap at f1
        rw [e1.1, e2.1] at f1
        exact f1
    · refine gz_iconst (v := 0) (pc := 14) cx qd_F_overtake_14 (by decide) ?_
      refine gz_ireturn (pc := 15) cx hr (by decide) qd_F_overtake_15 ?_
      have e : mIs (M.2.2.length - 1) x = false := by
        by_cases q : 1 ≤ M.2.2.length
        · have hpred : nI M.2.2.length - 1 = nI (M.2.2.length - 1) := by
            obtain ⟨z, hz⟩ : ∃ z, M.2.2.length = z + 1 := ⟨M.2.2.length - 1, by omega⟩
            rw [hz]; exact nI_pred z
          rw [hpred] at h11
          exact mIs_f2 (Int32.not_lt.mp h11)
        · have e0 : M.2.2.length - 1 = 0 := by omega
          rw [e0]
          exact mIs_f2 (Int32.not_lt.mp h1)
      unfold oSwap
      rw [e]
      exact ⟨rfl, h, gFr.rf⟩
theorem gc_M_tell {G : gG} {la : Launch} {S : gS} {a : Nat} {msg : List Int32} {x : Int32} (ha : a < 121) (hst : gSt G S) (hm : isMsg S a msg) : gM G la qy_M_tell qw_M_tell 1 0 0 (gTt G) (gTt G) [.inr (some (5, a, 0)), .inl x] S (fun v S' => v = some (.inl (mTellM msg x)) ∧ S' = S) := by
  refine gM_of (cc := qc_M_tell) (maxL := 2) (by decide) rfl (Nat.le_of_ble_eq_true rfl) ?_
  intro E cx hr hnm hcz hsz hEl
  subst hEl
  obtain ⟨c, hc8, hml, hm6, hmf, hmn⟩ := hm
  have h6 := (hmf 6 (by decide)).trans hm6
  refine gz_iload_n (pc := 0) cx qd_M_tell_0 rfl rfl ?_
  refine gz_switch (pc := 1) cx 6 (fun i => [44, 49, 54, 59, 64, 69, 74].getD i 0) 79 qd_M_tell_1 (by decide) (by intro i hi; match i, hi with
    | 0, _ => exact ⟨_, rfl, by decide⟩
    | 1, _ => exact ⟨_, rfl, by decide⟩
    | 2, _ => exact ⟨_, rfl, by decide⟩
    | 3, _ => exact ⟨_, rfl, by decide⟩
    | 4, _ => exact ⟨_, rfl, by decide⟩
    | 5, _ => exact ⟨_, rfl, by decide⟩
    | 6, _ => exact ⟨_, rfl, by decide⟩
    | i + 7, hi => exact absurd hi (by omega)) (by decide) (fun i hi hx => ?_) (fun hx => ?_)
  · match i, hi with
    | 0, _ =>
      subst hx
      refine gz_aload_n (pc := 44) cx qd_M_tell_44 rfl rfl ?_
      refine gz_getV (pc := 45) cx qf_M_15 qd_M_tell_45 (gm_M (by assumption)) rfl rfl (hmf 0 (by decide)) ?_
      refine gz_ireturn (pc := 48) cx hr rfl qd_M_tell_48 ?_
      exact ⟨rfl, rfl⟩
    | 1, _ =>
      subst hx
      refine gz_aload_n (pc := 49) cx qd_M_tell_49 rfl rfl ?_
      refine gz_getV (pc := 50) cx qf_M_19 qd_M_tell_50 (gm_M (by assumption)) rfl rfl (hmf 1 (by decide)) ?_
      refine gz_ireturn (pc := 53) cx hr rfl qd_M_tell_53 ?_
      exact ⟨rfl, rfl⟩
    | 2, _ =>
      subst hx
      refine gz_aload_n (pc := 54) cx qd_M_tell_54 rfl rfl ?_
      refine gz_getV (pc := 55) cx qf_M_22 qd_M_tell_55 (gm_M (by assumption)) rfl rfl (hmf 2 (by decide)) ?_
      refine gz_ireturn (pc := 58) cx hr rfl qd_M_tell_58 ?_
      exact ⟨rfl, rfl⟩
    | 3, _ =>
      subst hx
      refine gz_aload_n (pc := 59) cx qd_M_tell_59 rfl rfl ?_
      refine gz_getV (pc := 60) cx qf_M_28 qd_M_tell_60 (gm_M (by assumption)) rfl rfl (hmf 3 (by decide)) ?_
      refine gz_ireturn (pc := 63) cx hr rfl qd_M_tell_63 ?_
      exact ⟨rfl, rfl⟩
    | 4, _ =>
      subst hx
      refine gz_aload_n (pc := 64) cx qd_M_tell_64 rfl rfl ?_
      refine gz_getV (pc := 65) cx qf_M_31 qd_M_tell_65 (gm_M (by assumption)) rfl rfl (hmf 4 (by decide)) ?_
      refine gz_ireturn (pc := 68) cx hr rfl qd_M_tell_68 ?_
      exact ⟨rfl, rfl⟩
    | 5, _ =>
      subst hx
      refine gz_aload_n (pc := 69) cx qd_M_tell_69 rfl rfl ?_
      refine gz_getV (pc := 70) cx qf_M_34 qd_M_tell_70 (gm_M (by assumption)) rfl rfl (hmf 5 (by decide)) ?_
      refine gz_ireturn (pc := 73) cx hr rfl qd_M_tell_73 ?_
      exact ⟨rfl, rfl⟩
    | 6, _ =>
      subst hx
      refine gz_aload_n (pc := 74) cx qd_M_tell_74 rfl rfl ?_
      refine gz_getV (pc := 75) cx qf_M_25 qd_M_tell_75 (gm_M (by assumption)) rfl rfl (hmf 6 (by decide)) ?_
      refine gz_ireturn (pc := 78) cx hr rfl qd_M_tell_78 ?_
      exact ⟨rfl, rfl⟩
    | i + 7, hi => exact absurd hi (by omega)
  · refine gz_aload_n (pc := 79) cx qd_M_tell_79 rfl rfl ?_
    refine gz_iload_n (pc := 80) cx qd_M_tell_80 rfl rfl ?_
    refine gz_callV (pc := 81) cx qv_M_45 qd_M_tell_81 (gc_M_tellNews ha hst h6 hc8) (by decide) rfl (gm_M (by assumption)) rfl rfl rfl rfl (Nat.le_of_ble_eq_true rfl) ⟨Nat.zero_le _, Nat.zero_le _⟩ ?_
    rintro _ S' ⟨rfl, hS'⟩
    subst hS'
    refine gz_ireturn (pc := 84) cx hr rfl qd_M_tell_84 ?_
    refine ⟨?_, rfl⟩
    congr 2
    unfold mTellM
    by_cases q0 : x < 0
    · rw [if_pos q0, if_pos (Or.inl (Int32.lt_trans q0 (by decide)))]
    · rw [if_neg q0]
      obtain ⟨y, hy, rfl⟩ := nI_of q0
      rw [nI_clamp hy]
      have y7 : 7 ≤ y := by
        apply Classical.byContradiction
        intro q
        exact hx y (by omega) rfl
      by_cases q1 : nI (7 + 3 * c) ≤ nI y
      · rw [if_pos (Or.inr q1), List.getD_eq_getElem?_getD, List.getElem?_eq_none]
        · rfl
        · have := (nI_leI (by omega) hy).mp q1
          omega
      · rw [if_neg (fun q => q.elim (fun z => absurd ((nI_ltI hy (by decide : 7 < 2 ^ 31)).mp z) (by omega)) q1)]
        have yl : y < 7 + 3 * c := Classical.byContradiction (fun q => q1 (nI_le (by omega) hy))
        have e : nI y - 7 = nI (y - 7) := pk_sub (b := 7) y7
        rw [e, nI_clamp (by omega), hmn (y - 7) (by omega)]
        congr 1
        omega
end
section
def mCutB (M : mM) (a b : Nat) : Bool := decide (M.1 30 a b = 1)
def oStart (n : Nat) (M : mM) (a b : Int32) : Bool × mM :=
  if mIs n a = true ∧ mIs n b = true ∧ M.1 15 a.toNatClampNeg 0 = 0 then (true, if b = a then mBegin n M a.toNatClampNeg (M.1 31 0 0) else mSend n (mBegin n M a.toNatClampNeg (M.1 31 0 0)) 6 a.toNatClampNeg b 0 0 0) else (false, M)
def oCrash (n : Nat) (M : mM) (a : Int32) : Bool × mM := if mRun n M a = true then (true, mSet M 15 a.toNatClampNeg 0 0) else (false, M)
def oLeave (n : Nat) (M : mM) (a : Int32) : Bool × mM := if mRun n M a = true then (true, mSet (mFare n M a.toNatClampNeg (M.1 31 0 0)) 15 a.toNatClampNeg 0 0) else (false, M)
def oCut (n : Nat) (M : mM) (a b is : Int32) : Bool × mM :=
  if mIs n a = true ∧ mIs n b = true ∧ a ≠ b ∧ bI (mCutB M a.toNatClampNeg b.toNatClampNeg) ≠ is then (true, mSet (mSet M 30 a.toNatClampNeg b.toNatClampNeg is) 30 b.toNatClampNeg a.toNatClampNeg is) else (false, M)
def oMsg (M : mM) (k x : Int32) : Int32 := if mIs M.2.2.length k = true then mTellM (M.2.2.getD k.toNatClampNeg []) x else 0
def oView (n : Nat) (M : mM) (a b x : Int32) : Int32 := if mRun n M a = true then (if mIs n b = true then mTellE M a.toNatClampNeg b.toNatClampNeg x else 0) else -1
def oNode (n : Nat) (M : mM) (a x : Int32) : Int32 := if mIs n a = true ∧ ¬ x < 0 ∧ x ≤ 9 then (if M.1 15 a.toNatClampNeg 0 = 0 then 0 else mTellN n M a.toNatClampNeg x) else -1
def oQueued (n : Nat) (M : mM) (a b : Int32) : Int32 := if mRun n M a = true ∧ mIs n b = true then M.1 4 a.toNatClampNeg b.toNatClampNeg else 0
def mSee1 (M : mM) (i m : Nat) : Bool := if M.1 15 m 0 = 0 then decide (M.1 0 i m = 0 ∨ M.1 0 i m = 3) else decide (M.1 0 i m = 1 ∧ M.1 1 i m = M.1 1 m m)
def mSees (n : Nat) (M : mM) (i : Nat) : Bool := (List.range n).all (mSee1 M i)
def oAgreed (n : Nat) (M : mM) : Bool := (List.range n).all (fun i => decide (M.1 15 i 0 = 0) || mSees n M i)
theorem gc_G_isNode {G : gG} {la : Launch} {S : gS} {x : Int32} (hK : cK G S) : gM G la qy_G_isNode qw_G_isNode 0 0 0 (gTt G) (gTt G) [.inr (some (0, 0, 0)), .inl x] S (fun v S' => v = some (.inl (bI (mIs G.1 x))) ∧ S' = S) := by
  refine gM_of (cc := qc_G_isNode) (maxL := 2) (by decide) rfl (Nat.le_of_ble_eq_true rfl) ?_
  intro E cx hr hnm hcz hsz hEl
  subst hEl
  refine gz_iload_n (pc := 0) cx qd_G_isNode_0 rfl rfl ?_
  refine gz_if_lt (tgt := 16) (pc := 1) cx qd_G_isNode_1 (by decide) (fun h1 => ?_) (fun h1 => ?_)
  · refine gz_iconst (v := 0) (pc := 16) cx qd_G_isNode_16 (by decide) ?_
    refine gz_ireturn (pc := 17) cx hr (by decide) qd_G_isNode_17 ?_
    rw [mIs_f1 h1]
    exact ⟨rfl, rfl⟩
  · refine gz_iload_n (pc := 4) cx qd_G_isNode_4 rfl rfl ?_
    refine gz_aload_n (pc := 5) cx qd_G_isNode_5 rfl rfl ?_
    refine gz_getV (pc := 6) cx qf_G_18 qd_G_isNode_6 gm_G rfl rfl hK.2.2.2.2 ?_
    refine gz_icmp_ge (tgt := 16) (pc := 9) cx qd_G_isNode_9 (by decide) (fun h9 => ?_) (fun h9 => ?_)
    · refine gz_iconst (v := 0) (pc := 16) cx qd_G_isNode_16 (by decide) ?_
      refine gz_ireturn (pc := 17) cx hr (by decide) qd_G_isNode_17 ?_
      rw [mIs_f2 h9]
      exact ⟨rfl, rfl⟩
    · refine gz_iconst (v := 1) (pc := 12) cx qd_G_isNode_12 (by decide) ?_
      refine gz_goto (tgt := 17) (pc := 13) cx qd_G_isNode_13 (by decide) ?_
      refine gz_ireturn (pc := 17) cx hr (by decide) qd_G_isNode_17 ?_
      rw [mIs_t h1 h9]
      exact ⟨rfl, rfl⟩
theorem gc_G_isRunning {G : gG} {la : Launch} {M : mM} {p i0 : Nat} {kc : Option (Nat × List Int32)} {S : gS} {x : Int32} (h : CR G M p i0 kc S) : gM G la qy_G_isRunning qw_G_isRunning 1 0 0 (gTt G) (gTt G) [.inr (some (0, 0, 0)), .inl x] S (fun v S' => v = some (.inl (bI (mRun G.1 M x))) ∧ S' = S) := by
  refine gM_of (cc := qc_G_isRunning) (maxL := 2) (by decide) rfl (Nat.le_of_ble_eq_true rfl) ?_
  intro E cx hr hnm hcz hsz hEl
  subst hEl
  have h8 := h.1.2.1
  refine gz_aload_n (pc := 0) cx qd_G_isRunning_0 rfl rfl ?_
  refine gz_iload_n (pc := 1) cx qd_G_isRunning_1 rfl rfl ?_
  refine gz_callV (pc := 2) cx qv_G_45 qd_G_isRunning_2 (gc_G_isNode h.1) (by decide) rfl gm_G rfl rfl rfl rfl (Nat.le_of_ble_eq_true rfl) ⟨Nat.zero_le _, Nat.zero_le _⟩ ?_
  rintro _ S' ⟨rfl, hS'⟩
  subst hS'
  refine gz_if_eq (tgt := 24) (pc := 5) cx qd_G_isRunning_5 (by decide) (fun h5 => ?_) (fun h5 => ?_)
  · refine gz_iconst (v := 0) (pc := 24) cx qd_G_isRunning_24 (by decide) ?_
    refine gz_ireturn (pc := 25) cx hr (by decide) qd_G_isRunning_25 ?_
    unfold mRun
    rw [bB_f h5]
    exact ⟨rfl, rfl⟩
  · have hst := h.1.1
    obtain ⟨i, hi, rfl⟩ := (mIs_iff (by omega)).mp (bB_t h5)
    have e5 := h.2.2.1 i 5 hi (by decide) (by decide) (by decide)
    refine gz_aload_n (pc := 8) cx qd_G_isRunning_8 rfl rfl ?_
    refine gz_getR (pc := 9) cx qf_G_35 qd_G_isRunning_9 gm_G rfl rfl (hst _ _ _ rfl) ?_
    refine gz_iload_n (pc := 12) cx qd_G_isRunning_12 rfl rfl ?_
    refine gz_aaload (pc := 13) cx qd_G_isRunning_13 (by first | exact gm_tb (by assumption) | exact gm_ns | exact gm_cf | exact gm_w (by assumption) | exact gm_nw (by assumption) | exact gm_rs (by assumption) | exact gm_M (by assumption) | exact gm_R (by assumption) (by assumption) | exact gm_za (by decide) (by decide)) rfl ⟨by decide, by decide, rfl⟩ (hst _ _ _ rfl) rfl hi (by omega) ?_
    refine gz_getV (pc := 14) cx qf_G_49 qd_G_isRunning_14 (gm_N (by assumption)) rfl rfl e5 ?_
    refine gz_if_eq (tgt := 24) (pc := 17) cx qd_G_isRunning_17 (by decide) (fun h17 => ?_) (fun h17 => ?_)
    · refine gz_iconst (v := 0) (pc := 24) cx qd_G_isRunning_24 (by decide) ?_
      refine gz_ireturn (pc := 25) cx hr (by decide) qd_G_isRunning_25 ?_
      rw [mRun_nI hi (by omega), decide_eq_true (show M.1 15 i 0 = 0 from h17)]
      exact ⟨rfl, rfl⟩
    · refine gz_iconst (v := 1) (pc := 20) cx qd_G_isRunning_20 (by decide) ?_
      refine gz_goto (tgt := 25) (pc := 21) cx qd_G_isRunning_21 (by decide) ?_
      refine gz_ireturn (pc := 25) cx hr (by decide) qd_G_isRunning_25 ?_
      rw [mRun_nI hi (by omega), decide_eq_false (show ¬ M.1 15 i 0 = 0 from h17)]
      exact ⟨rfl, rfl⟩
theorem isMk_01 : ∀ y, y < 256 → ∀ m, m < 8 → ((nI y >>> (nI m &&& 31)) &&& 1 = 0 ∨ (nI y >>> (nI m &&& 31)) &&& 1 = 1) := by decide +kernel
theorem CR.cutB {G : gG} {M : mM} {p i0 : Nat} {kc : Option (Nat × List Int32)} {S : gS} (h : CR G M p i0 kc S) {a b : Nat} (ha : a < G.1) (hb : b < G.1) : decide ((S.1 (2, 0, 0) a >>> (nI b &&& 31)) &&& 1 = 1) = mCutB M a b := by
  have h8 := h.1.2.1
  obtain ⟨l, ⟨y, hy, e, hm⟩, h2⟩ := h.2.2.2.2.1.1 a ha
  unfold mCutB
  rw [decide_eq_decide, ← h2 b hb]
  have h01 := isMk_01 y hy b (by omega)
  rw [← e] at h01
  have := hm b (by omega)
  constructor
  · intro q
    exact Classical.byContradiction (fun z => absurd ((this.mpr z).symm.trans q) (by decide))
  · intro q
    exact h01.resolve_left (fun z => this.mp z q)
theorem gc_G_areCut {G : gG} {la : Launch} {M : mM} {p i0 : Nat} {kc : Option (Nat × List Int32)} {S : gS} {a b : Nat} (ha : a < G.1) (hb : b < G.1) (h : CR G M p i0 kc S) : gM G la qy_G_areCut qw_G_areCut 0 0 0 (gTt G) (gTt G) [.inr (some (0, 0, 0)), .inl (nI a), .inl (nI b)] S (fun v S' => v = some (.inl (bI (mCutB M a b))) ∧ S' = S) := by
  refine gM_of (cc := qc_G_areCut) (maxL := 3) (by decide) rfl (Nat.le_of_ble_eq_true rfl) ?_
  intro E cx hr hnm hcz hsz hEl
  subst hEl
  have h8 := h.1.2.1
  have hst := h.1.1
  rw [← h.cutB ha hb]
  refine gz_aload_n (pc := 0) cx qd_G_areCut_0 rfl rfl ?_
  refine gz_getR (pc := 1) cx qf_G_29 qd_G_areCut_1 gm_G rfl rfl (hst _ _ _ rfl) ?_
  refine gz_iload_n (pc := 4) cx qd_G_areCut_4 rfl rfl ?_
  refine gz_iaload (pc := 5) cx qd_G_areCut_5 (by first | exact gm_tb (by assumption) | exact gm_ns | exact gm_cf | exact gm_w (by assumption) | exact gm_nw (by assumption) | exact gm_rs (by assumption) | exact gm_M (by assumption) | exact gm_R (by assumption) (by assumption) | exact gm_za (by decide) (by decide)) rfl rfl ha (by omega) ?_
  refine gz_iload_n (pc := 6) cx qd_G_areCut_6 rfl rfl ?_
  refine gz_ishr (pc := 7) cx qd_G_areCut_7 ?_
  refine gz_iconst (v := 1) (pc := 8) cx qd_G_areCut_8 (by decide) ?_
  refine gz_iand (pc := 9) cx qd_G_areCut_9 ?_
  refine gz_iconst (v := 1) (pc := 10) cx qd_G_areCut_10 (by decide) ?_
  refine gz_icmp_ne (tgt := 18) (pc := 11) cx qd_G_areCut_11 (by decide) (fun h11 => ?_) (fun h11 => ?_)
  · refine gz_iconst (v := 0) (pc := 18) cx qd_G_areCut_18 (by decide) ?_
    refine gz_ireturn (pc := 19) cx hr (by decide) qd_G_areCut_19 ?_
    rw [decide_eq_false h11]
    exact ⟨rfl, rfl⟩
  · refine gz_iconst (v := 1) (pc := 14) cx qd_G_areCut_14 (by decide) ?_
    refine gz_goto (tgt := 19) (pc := 15) cx qd_G_areCut_15 (by decide) ?_
    refine gz_ireturn (pc := 19) cx hr (by decide) qd_G_areCut_19 ?_
    rw [decide_eq_true h11]
    exact ⟨rfl, rfl⟩
theorem gc_G_start {G : gG} {la : Launch} {M : mM} {S : gS} {x y : Int32} (h : CR G M 0 0 none S) : gM G la qy_G_start qw_G_start 3 0 0 (gTt G) (gTt G) [.inr (some (0, 0, 0)), .inl x, .inl y] S (fun v S' => v = some (.inl (bI (oStart G.1 M x y).1)) ∧ CR G (oStart G.1 M x y).2 0 0 none S' ∧ gFr S S') := by
  refine gM_of (cc := qc_G_start) (maxL := 3) (by decide) rfl (Nat.le_of_ble_eq_true rfl) ?_
  intro E cx hr hnm hcz hsz hEl
  subst hEl
  have h8 := h.1.2.1
  have hst := h.1.1
  have e4 := h.2.2.2.2.1.2
  refine gz_aload_n (pc := 0) cx qd_G_start_0 rfl rfl ?_
  refine gz_iload_n (pc := 1) cx qd_G_start_1 rfl rfl ?_
  refine gz_callV (pc := 2) cx qv_G_45 qd_G_start_2 (gc_G_isNode h.1) (by decide) rfl gm_G rfl rfl rfl rfl (Nat.le_of_ble_eq_true rfl) ⟨Nat.zero_le _, Nat.zero_le _⟩ ?_
  rintro _ S' ⟨rfl, hS'⟩
  subst hS'
  refine gz_if_eq (tgt := 28) (pc := 5) cx qd_G_start_5 (by decide) (fun h5 => ?_) (fun h5 => ?_)
  · refine gz_iconst (v := 0) (pc := 28) cx qd_G_start_28 (by decide) ?_
    refine gz_ireturn (pc := 29) cx hr (by decide) qd_G_start_29 ?_
    unfold oStart
    rw [if_neg (fun q => absurd q.1 (by rw [bB_f h5]; decide))]
    exact ⟨rfl, h, gFr.rf⟩
  · refine gz_aload_n (pc := 8) cx qd_G_start_8 rfl rfl ?_
    refine gz_iload_n (pc := 9) cx qd_G_start_9 rfl rfl ?_
    refine gz_callV (pc := 10) cx qv_G_45 qd_G_start_10 (gc_G_isNode h.1) (by decide) rfl gm_G rfl rfl rfl rfl (Nat.le_of_ble_eq_true rfl) ⟨Nat.zero_le _, Nat.zero_le _⟩ ?_
    rintro _ S' ⟨rfl, hS'⟩
    subst hS'
    refine gz_if_eq (tgt := 28) (pc := 13) cx qd_G_start_13 (by decide) (fun h13 => ?_) (fun h13 => ?_)
    · refine gz_iconst (v := 0) (pc := 28) cx qd_G_start_28 (by decide) ?_
      refine gz_ireturn (pc := 29) cx hr (by decide) qd_G_start_29 ?_
      unfold oStart
      rw [if_neg (fun q => absurd q.2.1 (by rw [bB_f h13]; decide))]
      exact ⟨rfl, h, gFr.rf⟩
    · obtain ⟨i, hi, rfl⟩ := (mIs_iff (by omega)).mp (bB_t h5)
      have e5 := h.2.2.1 i 5 hi (by decide) (by decide) (by decide)
      refine gz_aload_n (pc := 16) cx qd_G_start_16 rfl rfl ?_
      refine gz_getR (pc := 17) cx qf_G_35 qd_G_start_17 gm_G rfl rfl (hst _ _ _ rfl) ?_
      refine gz_iload_n (pc := 20) cx qd_G_start_20 rfl rfl ?_
      refine gz_aaload (pc := 21) cx qd_G_start_21 (by first | exact gm_tb (by assumption) | exact gm_ns | exact gm_cf | exact gm_w (by assumption) | exact gm_nw (by assumption) | exact gm_rs (by assumption) | exact gm_M (by assumption) | exact gm_R (by assumption) (by assumption) | exact gm_za (by decide) (by decide)) rfl ⟨by decide, by decide, rfl⟩ (hst _ _ _ rfl) rfl hi (by omega) ?_
      refine gz_getV (pc := 22) cx qf_G_49 qd_G_start_22 (gm_N (by assumption)) rfl rfl e5 ?_
      refine gz_if_eq (tgt := 30) (pc := 25) cx qd_G_start_25 (by decide) (fun h25 => ?_) (fun h25 => ?_)
      · refine gz_aload_n (pc := 30) cx qd_G_start_30 rfl rfl ?_
        refine gz_getR (pc := 31) cx qf_G_35 qd_G_start_31 gm_G rfl rfl (hst _ _ _ rfl) ?_
        refine gz_iload_n (pc := 34) cx qd_G_start_34 rfl rfl ?_
        refine gz_aaload (pc := 35) cx qd_G_start_35 (by first | exact gm_tb (by assumption) | exact gm_ns | exact gm_cf | exact gm_w (by assumption) | exact gm_nw (by assumption) | exact gm_rs (by assumption) | exact gm_M (by assumption) | exact gm_R (by assumption) (by assumption) | exact gm_za (by decide) (by decide)) rfl ⟨by decide, by decide, rfl⟩ (hst _ _ _ rfl) rfl hi (by omega) ?_
        refine gz_aload_n (pc := 36) cx qd_G_start_36 rfl rfl ?_
        refine gz_getV (pc := 37) cx qf_G_42 qd_G_start_37 gm_G rfl rfl e4 ?_
        refine gz_callV (pc := 40) cx qv_G_53 qd_G_start_40 (gc_N_begin hi h) (by decide) rfl (gm_N (by assumption)) rfl rfl rfl rfl (Nat.le_of_ble_eq_true rfl) ⟨Nat.zero_le _, Nat.zero_le _⟩ ?_
        rintro _ S1 ⟨rfl, c1, f1⟩
        have hst := c1.1.1
        refine gz_iload_n (pc := 43) cx qd_G_start_43 rfl rfl ?_
        refine gz_iload_n (pc := 44) cx qd_G_start_44 rfl rfl ?_
        refine gz_icmp_eq (tgt := 63) (pc := 45) cx qd_G_start_45 (by decide) (fun h45 => ?_) (fun h45 => ?_)
        · refine gz_iconst (v := 1) (pc := 63) cx qd_G_start_63 (by decide) ?_
          refine gz_ireturn (pc := 64) cx hr (by decide) qd_G_start_64 ?_
          unfold oStart
          rw [if_pos ⟨mIs_nI hi (by omega), bB_t h13, by rw [nI_clamp (by omega)]; exact h25⟩, nI_clamp (by omega)]
          refine ⟨rfl, ?_, f1⟩
          show CR G (if y = nI i then _ else _) _ _ _ _
          rw [if_pos h45]
          exact c1
        · refine gz_aload_n (pc := 48) cx qd_G_start_48 rfl rfl ?_
          refine gz_getR (pc := 49) cx qf_G_35 qd_G_start_49 gm_G rfl rfl (hst _ _ _ rfl) ?_
          refine gz_iload_n (pc := 52) cx qd_G_start_52 rfl rfl ?_
          refine gz_aaload (pc := 53) cx qd_G_start_53 (by first | exact gm_tb (by assumption) | exact gm_ns | exact gm_cf | exact gm_w (by assumption) | exact gm_nw (by assumption) | exact gm_rs (by assumption) | exact gm_M (by assumption) | exact gm_R (by assumption) (by assumption) | exact gm_za (by decide) (by decide)) rfl ⟨by decide, by decide, rfl⟩ (hst _ _ _ rfl) rfl hi (by omega) ?_
          refine gz_bipush (v := 6) (pc := 54) cx qd_G_start_54 (by decide) ?_
          refine gz_iload_n (pc := 56) cx qd_G_start_56 rfl rfl ?_
          refine gz_iconst (v := 0) (pc := 57) cx qd_G_start_57 (by decide) ?_
          refine gz_iconst (v := 0) (pc := 58) cx qd_G_start_58 (by decide) ?_
          refine gz_iconst (v := 0) (pc := 59) cx qd_G_start_59 (by decide) ?_
          refine gz_callV (pc := 60) cx qv_G_57 qd_G_start_60 (gc_send hi c1 (Or.inl rfl)) (by decide) rfl (gm_N (by assumption)) rfl rfl rfl rfl (Nat.le_of_ble_eq_true rfl) ⟨Nat.zero_le _, Nat.zero_le _⟩ ?_
          rintro _ S2 ⟨rfl, c2, f2⟩
          refine gz_iconst (v := 1) (pc := 63) cx qd_G_start_63 (by decide) ?_
          refine gz_ireturn (pc := 64) cx hr (by decide) qd_G_start_64 ?_
          unfold oStart
          rw [if_pos ⟨mIs_nI hi (by omega), bB_t h13, by rw [nI_clamp (by omega)]; exact h25⟩, nI_clamp (by omega)]
          refine ⟨rfl, ?_, f1.tr f2⟩
          show CR G (if y = nI i then _ else _) _ _ _ _
          rw [if_neg h45]
          exact c2
      · refine gz_iconst (v := 0) (pc := 28) cx qd_G_start_28 (by decide) ?_
        refine gz_ireturn (pc := 29) cx hr (by decide) qd_G_start_29 ?_
        unfold oStart
        rw [if_neg (fun q => h25 (by rw [nI_clamp (by omega)] at q; exact q.2.2))]
        exact ⟨rfl, h, gFr.rf⟩
theorem mRun_ex {n : Nat} {M : mM} {x : Int32} (hn : n < 2 ^ 31) (h : mRun n M x = true) : ∃ i, i < n ∧ x = nI i := by
  unfold mRun at h
  rw [Bool.and_eq_true] at h
  exact (mIs_iff hn).mp h.1
theorem gc_G_crash {G : gG} {la : Launch} {M : mM} {S : gS} {x : Int32} (h : CR G M 0 0 none S) : gM G la qy_G_crash qw_G_crash 2 0 0 (gTt G) (gTt G) [.inr (some (0, 0, 0)), .inl x] S (fun v S' => v = some (.inl (bI (oCrash G.1 M x).1)) ∧ CR G (oCrash G.1 M x).2 0 0 none S' ∧ gFr S S') := by
  refine gM_of (cc := qc_G_crash) (maxL := 2) (by decide) rfl (Nat.le_of_ble_eq_true rfl) ?_
  intro E cx hr hnm hcz hsz hEl
  subst hEl
  have h8 := h.1.2.1
  have hst := h.1.1
  refine gz_aload_n (pc := 0) cx qd_G_crash_0 rfl rfl ?_
  refine gz_iload_n (pc := 1) cx qd_G_crash_1 rfl rfl ?_
  refine gz_callV (pc := 2) cx qv_G_61 qd_G_crash_2 (gc_G_isRunning h) (by decide) rfl gm_G rfl rfl rfl rfl (Nat.le_of_ble_eq_true rfl) ⟨Nat.zero_le _, Nat.zero_le _⟩ ?_
  rintro _ S' ⟨rfl, hS'⟩
  subst hS'
  refine gz_if_ne (tgt := 10) (pc := 5) cx qd_G_crash_5 (by decide) (fun h5 => ?_) (fun h5 => ?_)
  · have hrun := bB_t h5
    obtain ⟨i, hi, rfl⟩ := mRun_ex (by omega) hrun
    refine gz_aload_n (pc := 10) cx qd_G_crash_10 rfl rfl ?_
    refine gz_getR (pc := 11) cx qf_G_35 qd_G_crash_11 gm_G rfl rfl (hst _ _ _ rfl) ?_
    refine gz_iload_n (pc := 14) cx qd_G_crash_14 rfl rfl ?_
    refine gz_aaload (pc := 15) cx qd_G_crash_15 (by first | exact gm_tb (by assumption) | exact gm_ns | exact gm_cf | exact gm_w (by assumption) | exact gm_nw (by assumption) | exact gm_rs (by assumption) | exact gm_M (by assumption) | exact gm_R (by assumption) (by assumption) | exact gm_za (by decide) (by decide)) rfl ⟨by decide, by decide, rfl⟩ (hst _ _ _ rfl) rfl hi (by omega) ?_
    refine gz_iconst (v := 0) (pc := 16) cx qd_G_crash_16 (by decide) ?_
    refine gz_putI (pc := 17) cx qp_G_49 qd_G_crash_17 (gm_N (by assumption)) rfl rfl ⟨by decide, by decide⟩ (fun h => nomatch h) ?_
    refine gz_iconst (v := 1) (pc := 20) cx qd_G_crash_20 (by decide) ?_
    refine gz_ireturn (pc := 21) cx hr (by decide) qd_G_crash_21 ?_
    obtain ⟨c1, f1⟩ := h.N (i := i) (f := 5) (by decide) (by decide) (by decide) 0
    unfold oCrash
    rw [if_pos hrun, nI_clamp (by omega)]
    exact ⟨rfl, c1, f1⟩
  · refine gz_iconst (v := 0) (pc := 8) cx qd_G_crash_8 (by decide) ?_
    refine gz_ireturn (pc := 9) cx hr (by decide) qd_G_crash_9 ?_
    unfold oCrash
    rw [if_neg (by rw [bB_f h5]; decide)]
    exact ⟨rfl, h, gFr.rf⟩
theorem gc_G_leave {G : gG} {la : Launch} {M : mM} {S : gS} {x : Int32} (h : CR G M 0 0 none S) : gM G la qy_G_leave qw_G_leave 4 0 0 (gTt G) (gTt G) [.inr (some (0, 0, 0)), .inl x] S (fun v S' => v = some (.inl (bI (oLeave G.1 M x).1)) ∧ CR G (oLeave G.1 M x).2 0 0 none S' ∧ gFr S S') := by
  refine gM_of (cc := qc_G_leave) (maxL := 2) (by decide) rfl (Nat.le_of_ble_eq_true rfl) ?_
  intro E cx hr hnm hcz hsz hEl
  subst hEl
  have h8 := h.1.2.1
  have hst := h.1.1
  have e4 := h.2.2.2.2.1.2
  refine gz_aload_n (pc := 0) cx qd_G_leave_0 rfl rfl ?_
  refine gz_iload_n (pc := 1) cx qd_G_leave_1 rfl rfl ?_
  refine gz_callV (pc := 2) cx qv_G_61 qd_G_leave_2 (gc_G_isRunning h) (by decide) rfl gm_G rfl rfl rfl rfl (Nat.le_of_ble_eq_true rfl) ⟨Nat.zero_le _, Nat.zero_le _⟩ ?_
  rintro _ S' ⟨rfl, hS'⟩
  subst hS'
  refine gz_if_ne (tgt := 10) (pc := 5) cx qd_G_leave_5 (by decide) (fun h5 => ?_) (fun h5 => ?_)
  · have hrun := bB_t h5
    obtain ⟨i, hi, rfl⟩ := mRun_ex (by omega) hrun
    refine gz_aload_n (pc := 10) cx qd_G_leave_10 rfl rfl ?_
    refine gz_getR (pc := 11) cx qf_G_35 qd_G_leave_11 gm_G rfl rfl (hst _ _ _ rfl) ?_
    refine gz_iload_n (pc := 14) cx qd_G_leave_14 rfl rfl ?_
    refine gz_aaload (pc := 15) cx qd_G_leave_15 (by first | exact gm_tb (by assumption) | exact gm_ns | exact gm_cf | exact gm_w (by assumption) | exact gm_nw (by assumption) | exact gm_rs (by assumption) | exact gm_M (by assumption) | exact gm_R (by assumption) (by assumption) | exact gm_za (by decide) (by decide)) rfl ⟨by decide, by decide, rfl⟩ (hst _ _ _ rfl) rfl hi (by omega) ?_
    refine gz_aload_n (pc := 16) cx qd_G_leave_16 rfl rfl ?_
    refine gz_getV (pc := 17) cx qf_G_42 qd_G_leave_17 gm_G rfl rfl e4 ?_
    refine gz_callV (pc := 20) cx qv_G_64 qd_G_leave_20 (gc_N_sayFarewell hi h) (by decide) rfl (gm_N (by assumption)) rfl rfl rfl rfl (Nat.le_of_ble_eq_true rfl) ⟨Nat.zero_le _, Nat.zero_le _⟩ ?_
    rintro _ S1 ⟨rfl, c1, f1⟩
    have hst := c1.1.1
    refine gz_aload_n (pc := 23) cx qd_G_leave_23 rfl rfl ?_
    refine gz_getR (pc := 24) cx qf_G_35 qd_G_leave_24 gm_G rfl rfl (hst _ _ _ rfl) ?_
    refine gz_iload_n (pc := 27) cx qd_G_leave_27 rfl rfl ?_
    refine gz_aaload (pc := 28) cx qd_G_leave_28 (by first | exact gm_tb (by assumption) | exact gm_ns | exact gm_cf | exact gm_w (by assumption) | exact gm_nw (by assumption) | exact gm_rs (by assumption) | exact gm_M (by assumption) | exact gm_R (by assumption) (by assumption) | exact gm_za (by decide) (by decide)) rfl ⟨by decide, by decide, rfl⟩ (hst _ _ _ rfl) rfl hi (by omega) ?_
    refine gz_iconst (v := 0) (pc := 29) cx qd_G_leave_29 (by decide) ?_
    refine gz_putI (pc := 30) cx qp_G_49 qd_G_leave_30 (gm_N (by assumption)) rfl rfl ⟨by decide, by decide⟩ (fun h => nomatch h) ?_
    refine gz_iconst (v := 1) (pc := 33) cx qd_G_leave_33 (by decide) ?_
    refine gz_ireturn (pc := 34) cx hr (by decide) qd_G_leave_34 ?_
    obtain ⟨c2, f2⟩ := c1.N (i := i) (f := 5) (by decide) (by decide) (by decide) 0
    unfold oLeave
    rw [if_pos hrun, nI_clamp (by omega)]
    exact ⟨rfl, c2, f1.tr f2⟩
  · refine gz_iconst (v := 0) (pc := 8) cx qd_G_leave_8 (by decide) ?_
    refine gz_ireturn (pc := 9) cx hr (by decide) qd_G_leave_9 ?_
    unfold oLeave
    rw [if_neg (by rw [bB_f h5]; decide)]
    exact ⟨rfl, h, gFr.rf⟩
theorem gc_G_drop {G : gG} {la : Launch} {M : mM} {S : gS} {x : Int32} (h : CR G M 0 0 none S) : gM G la qy_G_drop qw_G_drop 1 0 0 (gTt G) (gTt G) [.inr (some (0, 0, 0)), .inl x] S (fun v S' => v = some (.inl (bI (mIs M.2.2.length x))) ∧ CR G (oDrop M x) 0 0 none S' ∧ gFr S S') := by
  refine gM_of (cc := qc_G_drop) (maxL := 2) (by decide) rfl (Nat.le_of_ble_eq_true rfl) ?_
  intro E cx hr hnm hcz hsz hEl
  subst hEl
  have hst := h.1.1
  refine gz_aload_n (pc := 0) cx qd_G_drop_0 rfl rfl ?_
  refine gz_getR (pc := 1) cx qf_G_25 qd_G_drop_1 gm_G rfl rfl (hst _ _ _ rfl) ?_
  refine gz_iload_n (pc := 4) cx qd_G_drop_4 rfl rfl ?_
  refine gz_callV (pc := 5) cx qv_G_71 qd_G_drop_5 (gc_F_lose h) (by decide) rfl gm_F rfl rfl rfl rfl (Nat.le_of_ble_eq_true rfl) ⟨Nat.zero_le _, Nat.zero_le _⟩ ?_
  rintro _ S1 ⟨rfl, c1, f1⟩
  refine gz_ireturn (pc := 8) cx hr bI_z qd_G_drop_8 ?_
  exact ⟨rfl, c1, f1⟩
theorem gc_G_swap {G : gG} {la : Launch} {M : mM} {S : gS} {x : Int32} (h : CR G M 0 0 none S) : gM G la qy_G_swap qw_G_swap 1 0 0 (gTt G) (gTt G) [.inr (some (0, 0, 0)), .inl x] S (fun v S' => v = some (.inl (bI (mIs (M.2.2.length - 1) x))) ∧ CR G (oSwap M x) 0 0 none S' ∧ gFr S S') := by
  refine gM_of (cc := qc_G_swap) (maxL := 2) (by decide) rfl (Nat.le_of_ble_eq_true rfl) ?_
  intro E cx hr hnm hcz hsz hEl
  subst hEl
  have hst := h.1.1
  refine gz_aload_n (pc := 0) cx qd_G_swap_0 rfl rfl ?_
  refine gz_getR (pc := 1) cx qf_G_25 qd_G_swap_1 gm_G rfl rfl (hst _ _ _ rfl) ?_
  refine gz_iload_n (pc := 4) cx qd_G_swap_4 rfl rfl ?_
  refine gz_callV (pc := 5) cx qv_G_74 qd_G_swap_5 (gc_F_overtake h) (by decide) rfl gm_F rfl rfl rfl rfl (Nat.le_of_ble_eq_true rfl) ⟨Nat.zero_le _, Nat.zero_le _⟩ ?_
  rintro _ S1 ⟨rfl, c1, f1⟩
  refine gz_ireturn (pc := 8) cx hr bI_z qd_G_swap_8 ?_
  exact ⟨rfl, c1, f1⟩
theorem gc_G_now {G : gG} {la : Launch} {M : mM} {p i0 : Nat} {kc : Option (Nat × List Int32)} {S : gS} (h : CR G M p i0 kc S) : gM G la qy_G_now qw_G_now 0 0 0 (gTt G) (gTt G) [.inr (some (0, 0, 0))] S (fun v S' => v = some (.inl (M.1 31 0 0)) ∧ S' = S) := by
  refine gM_of (cc := qc_G_now) (maxL := 1) (by decide) rfl (Nat.le_of_ble_eq_true rfl) ?_
  intro E cx hr hnm hcz hsz hEl
  subst hEl
  refine gz_aload_n (pc := 0) cx qd_G_now_0 rfl rfl ?_
  refine gz_getV (pc := 1) cx qf_G_42 qd_G_now_1 gm_G rfl rfl h.2.2.2.2.1.2 ?_
  refine gz_ireturn (pc := 4) cx hr rfl qd_G_now_4 ?_
  exact ⟨rfl, rfl⟩
theorem gc_G_flight {G : gG} {la : Launch} {M : mM} {S : gS} (h : CR G M 0 0 none S) : gM G la qy_G_flight qw_G_flight 0 0 0 (gTt G) (gTt G) [.inr (some (0, 0, 0))] S (fun v S' => v = some (.inl (nI M.2.2.length)) ∧ S' = S) := by
  refine gM_of (cc := qc_G_flight) (maxL := 1) (by decide) rfl (Nat.le_of_ble_eq_true rfl) ?_
  intro E cx hr hnm hcz hsz hEl
  subst hEl
  have hst := h.1.1
  obtain ⟨b, σ, hb, a1, a2, a3, a4, a5, a6, a7, a8, a9, a10, a11⟩ := h.2.2.2.2.2
  rw [Nat.sub_zero] at a6 a7
  refine gz_aload_n (pc := 0) cx qd_G_flight_0 rfl rfl ?_
  refine gz_getR (pc := 1) cx qf_G_25 qd_G_flight_1 gm_G rfl rfl (hst _ _ _ rfl) ?_
  refine gz_getV (pc := 4) cx qf_G_84 qd_G_flight_4 gm_F rfl rfl a7 ?_
  refine gz_ireturn (pc := 7) cx hr rfl qd_G_flight_7 ?_
  exact ⟨rfl, rfl⟩
theorem gc_G_message {G : gG} {la : Launch} {M : mM} {S : gS} {x y : Int32} (h : CR G M 0 0 none S) : gM G la qy_G_message qw_G_message 2 0 0 (gTt G) (gTt G) [.inr (some (0, 0, 0)), .inl x, .inl y] S (fun v S' => v = some (.inl (oMsg M x y)) ∧ S' = S) := by
  refine gM_of (cc := qc_G_message) (maxL := 3) (by decide) rfl (Nat.le_of_ble_eq_true rfl) ?_
  intro E cx hr hnm hcz hsz hEl
  subst hEl
  have hst := h.1.1
  obtain ⟨b, σ, hb, a1, a2, a3, a4, a5, a6, a7, a8, a9, a10, a11⟩ := h.2.2.2.2.2
  rw [Nat.sub_zero] at a6 a7
  refine gz_iload_n (pc := 0) cx qd_G_message_0 rfl rfl ?_
  refine gz_if_lt (tgt := 15) (pc := 1) cx qd_G_message_1 (by decide) (fun h1 => ?_) (fun h1 => ?_)
  · refine gz_iconst (v := 0) (pc := 15) cx qd_G_message_15 (by decide) ?_
    refine gz_ireturn (pc := 16) cx hr rfl qd_G_message_16 ?_
    unfold oMsg
    rw [mIs_f1 h1]
    exact ⟨rfl, rfl⟩
  · refine gz_iload_n (pc := 4) cx qd_G_message_4 rfl rfl ?_
    refine gz_aload_n (pc := 5) cx qd_G_message_5 rfl rfl ?_
    refine gz_getR (pc := 6) cx qf_G_25 qd_G_message_6 gm_G rfl rfl (hst _ _ _ rfl) ?_
    refine gz_getV (pc := 9) cx qf_G_84 qd_G_message_9 gm_F rfl rfl a7 ?_
    refine gz_icmp_lt (tgt := 17) (pc := 12) cx qd_G_message_12 (by decide) (fun h12 => ?_) (fun h12 => ?_)
    · obtain ⟨k, hk, rfl⟩ := (mIs_iff (by omega)).mp (mIs_t h1 (Int32.not_le.mpr h12))
      have hms := a8 k (by omega)
      rw [Nat.zero_add] at hms
      refine gz_aload_n (pc := 17) cx qd_G_message_17 rfl rfl ?_
      refine gz_getR (pc := 18) cx qf_G_25 qd_G_message_18 gm_G rfl rfl (hst _ _ _ rfl) ?_
      refine gz_getR (pc := 21) cx qf_G_87 qd_G_message_21 gm_F rfl rfl a1 ?_
      refine gz_iload_n (pc := 24) cx qd_G_message_24 rfl rfl ?_
      refine gz_aaload (pc := 25) cx qd_G_message_25 (by first | exact gm_tb (by assumption) | exact gm_ns | exact gm_cf | exact gm_w (by assumption) | exact gm_nw (by assumption) | exact gm_rs (by assumption) | exact gm_M (by assumption) | exact gm_R (by assumption) (by assumption) | exact gm_za (by decide) (by decide)) rfl ⟨by decide, by decide, rfl⟩ (a3 b k hb (by omega)).1 rfl (by omega) (by decide) ?_
      refine gz_iload_n (pc := 26) cx qd_G_message_26 rfl rfl ?_
      refine gz_callV (pc := 27) cx qv_G_91 qd_G_message_27 (gc_M_tell (show σ b k < 121 by have := (a3 b k hb (by omega)).2; omega) hst hms) (by decide) rfl (gm_M (show σ b k < 121 by have := (a3 b k hb (by omega)).2; omega)) rfl rfl rfl rfl (Nat.le_of_ble_eq_true rfl) ⟨Nat.zero_le _, Nat.zero_le _⟩ ?_
      rintro _ S' ⟨rfl, hS'⟩
      subst hS'
      refine gz_ireturn (pc := 30) cx hr rfl qd_G_message_30 ?_
      unfold oMsg
      rw [if_pos (mIs_nI hk (by omega)), nI_clamp (by omega)]
      exact ⟨rfl, rfl⟩
    · refine gz_iconst (v := 0) (pc := 15) cx qd_G_message_15 (by decide) ?_
      refine gz_ireturn (pc := 16) cx hr rfl qd_G_message_16 ?_
      unfold oMsg
      rw [mIs_f2 (Int32.not_lt.mp h12)]
      exact ⟨rfl, rfl⟩
theorem gc_G_view {G : gG} {la : Launch} {M : mM} {p i0 : Nat} {kc : Option (Nat × List Int32)} {S : gS} {x y z : Int32} (h : CR G M p i0 kc S) : gM G la qy_G_view qw_G_view 2 0 0 (gTt G) (gTt G) [.inr (some (0, 0, 0)), .inl x, .inl y, .inl z] S (fun v S' => v = some (.inl (oView G.1 M x y z)) ∧ S' = S) := by
  refine gM_of (cc := qc_G_view) (maxL := 4) (by decide) rfl (Nat.le_of_ble_eq_true rfl) ?_
  intro E cx hr hnm hcz hsz hEl
  subst hEl
  have h8 := h.1.2.1
  have hst := h.1.1
  refine gz_aload_n (pc := 0) cx qd_G_view_0 rfl rfl ?_
  refine gz_iload_n (pc := 1) cx qd_G_view_1 rfl rfl ?_
  refine gz_callV (pc := 2) cx qv_G_61 qd_G_view_2 (gc_G_isRunning h) (by decide) rfl gm_G rfl rfl rfl rfl (Nat.le_of_ble_eq_true rfl) ⟨Nat.zero_le _, Nat.zero_le _⟩ ?_
  rintro _ S' ⟨rfl, hS'⟩
  subst hS'
  refine gz_if_ne (tgt := 10) (pc := 5) cx qd_G_view_5 (by decide) (fun h5 => ?_) (fun h5 => ?_)
  · have hrun := bB_t h5
    obtain ⟨i, hi, rfl⟩ := mRun_ex (by omega) hrun
    refine gz_aload_n (pc := 10) cx qd_G_view_10 rfl rfl ?_
    refine gz_iload_n (pc := 11) cx qd_G_view_11 rfl rfl ?_
    refine gz_callV (pc := 12) cx qv_G_45 qd_G_view_12 (gc_G_isNode h.1) (by decide) rfl gm_G rfl rfl rfl rfl (Nat.le_of_ble_eq_true rfl) ⟨Nat.zero_le _, Nat.zero_le _⟩ ?_
    rintro _ S' ⟨rfl, hS'⟩
    subst hS'
    refine gz_if_eq (tgt := 36) (pc := 15) cx qd_G_view_15 (by decide) (fun h15 => ?_) (fun h15 => ?_)
    · refine gz_iconst (v := 0) (pc := 36) cx qd_G_view_36 (by decide) ?_
      refine gz_ireturn (pc := 37) cx hr rfl qd_G_view_37 ?_
      unfold oView
      rw [if_pos hrun, bB_f h15]
      exact ⟨rfl, rfl⟩
    · obtain ⟨j, hj, rfl⟩ := (mIs_iff (by omega)).mp (bB_t h15)
      refine gz_aload_n (pc := 18) cx qd_G_view_18 rfl rfl ?_
      refine gz_getR (pc := 19) cx qf_G_35 qd_G_view_19 gm_G rfl rfl (hst _ _ _ rfl) ?_
      refine gz_iload_n (pc := 22) cx qd_G_view_22 rfl rfl ?_
      refine gz_aaload (pc := 23) cx qd_G_view_23 (by first | exact gm_tb (by assumption) | exact gm_ns | exact gm_cf | exact gm_w (by assumption) | exact gm_nw (by assumption) | exact gm_rs (by assumption) | exact gm_M (by assumption) | exact gm_R (by assumption) (by assumption) | exact gm_za (by decide) (by decide)) rfl ⟨by decide, by decide, rfl⟩ (hst _ _ _ rfl) rfl hi (by omega) ?_
      refine gz_getR (pc := 24) cx qf_G_97 qd_G_view_24 (gm_N (by assumption)) rfl rfl (hst _ _ _ rfl) ?_
      refine gz_iload_n (pc := 27) cx qd_G_view_27 rfl rfl ?_
      refine gz_aaload (pc := 28) cx qd_G_view_28 (by first | exact gm_tb (by assumption) | exact gm_ns | exact gm_cf | exact gm_w (by assumption) | exact gm_nw (by assumption) | exact gm_rs (by assumption) | exact gm_M (by assumption) | exact gm_R (by assumption) (by assumption) | exact gm_za (by decide) (by decide)) rfl ⟨by decide, by decide, rfl⟩ (hst _ _ _ rfl) rfl hj (by omega) ?_
      refine gz_iload_n (pc := 29) cx qd_G_view_29 rfl rfl ?_
      refine gz_callV (pc := 30) cx qv_G_101 qd_G_view_30 (gc_E_tell hi hj) (by decide) rfl (gm_E (by assumption) (by assumption)) rfl rfl rfl rfl (Nat.le_of_ble_eq_true rfl) ⟨Nat.zero_le _, Nat.zero_le _⟩ ?_
      rintro _ S' ⟨rfl, hS'⟩
      subst hS'
      refine gz_goto (tgt := 37) (pc := 33) cx qd_G_view_33 (by decide) ?_
      refine gz_ireturn (pc := 37) cx hr rfl qd_G_view_37 ?_
      unfold oView
      rw [if_pos hrun, if_pos (mIs_nI hj (by omega)), nI_clamp (by omega), nI_clamp (by omega)]
      refine ⟨?_, rfl⟩
      unfold sTellE mTellE
      rw [h.2.1 i j 0 hi hj (by decide), h.2.1 i j 1 hi hj (by decide), h.2.1 i j 2 hi hj (by decide), h.2.1 i j 3 hi hj (by decide)]
  · refine gz_iconst (v := -1) (pc := 8) cx qd_G_view_8 (by decide) ?_
    refine gz_ireturn (pc := 9) cx hr rfl qd_G_view_9 ?_
    unfold oView
    rw [bB_f h5]
    exact ⟨rfl, rfl⟩
theorem gc_G_node {G : gG} {la : Launch} {M : mM} {p i0 : Nat} {kc : Option (Nat × List Int32)} {S : gS} {x y : Int32} (h : CR G M p i0 kc S) : gM G la qy_G_node qw_G_node 2 0 0 (gTt G) (gTt G) [.inr (some (0, 0, 0)), .inl x, .inl y] S (fun v S' => v = some (.inl (oNode G.1 M x y)) ∧ S' = S) := by
  refine gM_of (cc := qc_G_node) (maxL := 3) (by decide) rfl (Nat.le_of_ble_eq_true rfl) ?_
  intro E cx hr hnm hcz hsz hEl
  subst hEl
  have h8 := h.1.2.1
  have hst := h.1.1
  refine gz_aload_n (pc := 0) cx qd_G_node_0 rfl rfl ?_
  refine gz_iload_n (pc := 1) cx qd_G_node_1 rfl rfl ?_
  refine gz_callV (pc := 2) cx qv_G_45 qd_G_node_2 (gc_G_isNode h.1) (by decide) rfl gm_G rfl rfl rfl rfl (Nat.le_of_ble_eq_true rfl) ⟨Nat.zero_le _, Nat.zero_le _⟩ ?_
  rintro _ S' ⟨rfl, hS'⟩
  subst hS'
  refine gz_if_eq (tgt := 18) (pc := 5) cx qd_G_node_5 (by decide) (fun h5 => ?_) (fun h5 => ?_)
  · refine gz_iconst (v := -1) (pc := 18) cx qd_G_node_18 (by decide) ?_
    refine gz_ireturn (pc := 19) cx hr rfl qd_G_node_19 ?_
    unfold oNode
    rw [if_neg (fun q => absurd q.1 (by rw [bB_f h5]; decide))]
    exact ⟨rfl, rfl⟩
  · refine gz_iload_n (pc := 8) cx qd_G_node_8 rfl rfl ?_
    refine gz_if_lt (tgt := 18) (pc := 9) cx qd_G_node_9 (by decide) (fun h9 => ?_) (fun h9 => ?_)
    · refine gz_iconst (v := -1) (pc := 18) cx qd_G_node_18 (by decide) ?_
      refine gz_ireturn (pc := 19) cx hr rfl qd_G_node_19 ?_
      unfold oNode
      rw [if_neg (fun q => q.2.1 h9)]
      exact ⟨rfl, rfl⟩
    · refine gz_iload_n (pc := 12) cx qd_G_node_12 rfl rfl ?_
      refine gz_bipush (v := 9) (pc := 13) cx qd_G_node_13 (by decide) ?_
      refine gz_icmp_le (tgt := 20) (pc := 15) cx qd_G_node_15 (by decide) (fun h15 => ?_) (fun h15 => ?_)
      · obtain ⟨i, hi, rfl⟩ := (mIs_iff (by omega)).mp (bB_t h5)
        have e5 := h.2.2.1 i 5 hi (by decide) (by decide) (by decide)
        refine gz_aload_n (pc := 20) cx qd_G_node_20 rfl rfl ?_
        refine gz_getR (pc := 21) cx qf_G_35 qd_G_node_21 gm_G rfl rfl (hst _ _ _ rfl) ?_
        refine gz_iload_n (pc := 24) cx qd_G_node_24 rfl rfl ?_
        refine gz_aaload (pc := 25) cx qd_G_node_25 (by first | exact gm_tb (by assumption) | exact gm_ns | exact gm_cf | exact gm_w (by assumption) | exact gm_nw (by assumption) | exact gm_rs (by assumption) | exact gm_M (by assumption) | exact gm_R (by assumption) (by assumption) | exact gm_za (by decide) (by decide)) rfl ⟨by decide, by decide, rfl⟩ (hst _ _ _ rfl) rfl hi (by omega) ?_
        refine gz_getV (pc := 26) cx qf_G_49 qd_G_node_26 (gm_N (by assumption)) rfl rfl e5 ?_
        refine gz_if_eq (tgt := 45) (pc := 29) cx qd_G_node_29 (by decide) (fun h29 => ?_) (fun h29 => ?_)
        · refine gz_iconst (v := 0) (pc := 45) cx qd_G_node_45 (by decide) ?_
          refine gz_ireturn (pc := 46) cx hr rfl qd_G_node_46 ?_
          unfold oNode
          rw [if_pos ⟨mIs_nI hi (by omega), h9, h15⟩, nI_clamp (by omega), if_pos h29]
          exact ⟨rfl, rfl⟩
        · refine gz_aload_n (pc := 32) cx qd_G_node_32 rfl rfl ?_
          refine gz_getR (pc := 33) cx qf_G_35 qd_G_node_33 gm_G rfl rfl (hst _ _ _ rfl) ?_
          refine gz_iload_n (pc := 36) cx qd_G_node_36 rfl rfl ?_
          refine gz_aaload (pc := 37) cx qd_G_node_37 (by first | exact gm_tb (by assumption) | exact gm_ns | exact gm_cf | exact gm_w (by assumption) | exact gm_nw (by assumption) | exact gm_rs (by assumption) | exact gm_M (by assumption) | exact gm_R (by assumption) (by assumption) | exact gm_za (by decide) (by decide)) rfl ⟨by decide, by decide, rfl⟩ (hst _ _ _ rfl) rfl hi (by omega) ?_
          refine gz_iload_n (pc := 38) cx qd_G_node_38 rfl rfl ?_
          refine gz_callV (pc := 39) cx qv_G_104 qd_G_node_39 (gc_N_tell hi h) (by decide) rfl (gm_N (by assumption)) rfl rfl rfl rfl (Nat.le_of_ble_eq_true rfl) ⟨Nat.zero_le _, Nat.zero_le _⟩ ?_
          rintro _ S' ⟨rfl, hS'⟩
          subst hS'
          refine gz_goto (tgt := 46) (pc := 42) cx qd_G_node_42 (by decide) ?_
          refine gz_ireturn (pc := 46) cx hr rfl qd_G_node_46 ?_
          unfold oNode
          rw [if_pos ⟨mIs_nI hi (by omega), h9, h15⟩, nI_clamp (by omega), if_neg h29]
          exact ⟨rfl, rfl⟩
      · refine gz_iconst (v := -1) (pc := 18) cx qd_G_node_18 (by decide) ?_
        refine gz_ireturn (pc := 19) cx hr rfl qd_G_node_19 ?_
        unfold oNode
        rw [if_neg (fun q => h15 q.2.2)]
        exact ⟨rfl, rfl⟩
theorem gc_G_queued {G : gG} {la : Launch} {M : mM} {p i0 : Nat} {kc : Option (Nat × List Int32)} {S : gS} {x y : Int32} (h : CR G M p i0 kc S) : gM G la qy_G_queued qw_G_queued 2 0 0 (gTt G) (gTt G) [.inr (some (0, 0, 0)), .inl x, .inl y] S (fun v S' => v = some (.inl (oQueued G.1 M x y)) ∧ S' = S) := by
  refine gM_of (cc := qc_G_queued) (maxL := 3) (by decide) rfl (Nat.le_of_ble_eq_true rfl) ?_
  intro E cx hr hnm hcz hsz hEl
  subst hEl
  have h8 := h.1.2.1
  have hst := h.1.1
  refine gz_aload_n (pc := 0) cx qd_G_queued_0 rfl rfl ?_
  refine gz_iload_n (pc := 1) cx qd_G_queued_1 rfl rfl ?_
  refine gz_callV (pc := 2) cx qv_G_61 qd_G_queued_2 (gc_G_isRunning h) (by decide) rfl gm_G rfl rfl rfl rfl (Nat.le_of_ble_eq_true rfl) ⟨Nat.zero_le _, Nat.zero_le _⟩ ?_
  rintro _ S' ⟨rfl, hS'⟩
  subst hS'
  refine gz_if_eq (tgt := 33) (pc := 5) cx qd_G_queued_5 (by decide) (fun h5 => ?_) (fun h5 => ?_)
  · refine gz_iconst (v := 0) (pc := 33) cx qd_G_queued_33 (by decide) ?_
    refine gz_ireturn (pc := 34) cx hr rfl qd_G_queued_34 ?_
    unfold oQueued
    rw [if_neg (fun q => absurd q.1 (by rw [bB_f h5]; decide))]
    exact ⟨rfl, rfl⟩
  · have hrun := bB_t h5
    obtain ⟨i, hi, rfl⟩ := mRun_ex (by omega) hrun
    refine gz_aload_n (pc := 8) cx qd_G_queued_8 rfl rfl ?_
    refine gz_iload_n (pc := 9) cx qd_G_queued_9 rfl rfl ?_
    refine gz_callV (pc := 10) cx qv_G_45 qd_G_queued_10 (gc_G_isNode h.1) (by decide) rfl gm_G rfl rfl rfl rfl (Nat.le_of_ble_eq_true rfl) ⟨Nat.zero_le _, Nat.zero_le _⟩ ?_
    rintro _ S' ⟨rfl, hS'⟩
    subst hS'
    refine gz_if_eq (tgt := 33) (pc := 13) cx qd_G_queued_13 (by decide) (fun h13 => ?_) (fun h13 => ?_)
    · refine gz_iconst (v := 0) (pc := 33) cx qd_G_queued_33 (by decide) ?_
      refine gz_ireturn (pc := 34) cx hr rfl qd_G_queued_34 ?_
      unfold oQueued
      rw [if_neg (fun q => absurd q.2 (by rw [bB_f h13]; decide))]
      exact ⟨rfl, rfl⟩
    · obtain ⟨j, hj, rfl⟩ := (mIs_iff (by omega)).mp (bB_t h13)
      refine gz_aload_n (pc := 16) cx qd_G_queued_16 rfl rfl ?_
      refine gz_getR (pc := 17) cx qf_G_35 qd_G_queued_17 gm_G rfl rfl (hst _ _ _ rfl) ?_
      refine gz_iload_n (pc := 20) cx qd_G_queued_20 rfl rfl ?_
      refine gz_aaload (pc := 21) cx qd_G_queued_21 (by first | exact gm_tb (by assumption) | exact gm_ns | exact gm_cf | exact gm_w (by assumption) | exact gm_nw (by assumption) | exact gm_rs (by assumption) | exact gm_M (by assumption) | exact gm_R (by assumption) (by assumption) | exact gm_za (by decide) (by decide)) rfl ⟨by decide, by decide, rfl⟩ (hst _ _ _ rfl) rfl hi (by omega) ?_
      refine gz_getR (pc := 22) cx qf_G_97 qd_G_queued_22 (gm_N (by assumption)) rfl rfl (hst _ _ _ rfl) ?_
      refine gz_iload_n (pc := 25) cx qd_G_queued_25 rfl rfl ?_
      refine gz_aaload (pc := 26) cx qd_G_queued_26 (by first | exact gm_tb (by assumption) | exact gm_ns | exact gm_cf | exact gm_w (by assumption) | exact gm_nw (by assumption) | exact gm_rs (by assumption) | exact gm_M (by assumption) | exact gm_R (by assumption) (by assumption) | exact gm_za (by decide) (by decide)) rfl ⟨by decide, by decide, rfl⟩ (hst _ _ _ rfl) rfl hj (by omega) ?_
      refine gz_getV (pc := 27) cx qf_G_105 qd_G_queued_27 (gm_E (by assumption) (by assumption)) rfl rfl (h.2.1 i j 4 hi hj (by decide)) ?_
      refine gz_goto (tgt := 34) (pc := 30) cx qd_G_queued_30 (by decide) ?_
      refine gz_ireturn (pc := 34) cx hr rfl qd_G_queued_34 ?_
      unfold oQueued
      rw [if_pos ⟨hrun, mIs_nI hj (by omega)⟩, nI_clamp (by omega), nI_clamp (by omega)]
      exact ⟨rfl, rfl⟩
theorem gc_G_seesJustTheRunning {G : gG} {la : Launch} {M : mM} {p i0 : Nat} {kc : Option (Nat × List Int32)} {S : gS} {i : Nat} (hi : i < G.1) (h : CR G M p i0 kc S) : gM G la qy_G_seesJustTheRunning qw_G_seesJustTheRunning 0 0 0 (gTt G) (gTt G) [.inr (some (0, 0, 0)), .inr (some (7, i, 0))] S (fun v S' => v = some (.inl (bI (mSees G.1 M i))) ∧ S' = S) := by
  refine gM_of (cc := qc_G_seesJustTheRunning) (maxL := 4) (by decide) rfl (Nat.le_of_ble_eq_true rfl) ?_
  intro E cx hr hnm hcz hsz hEl
  subst hEl
  have h8 := h.1.2.1
  have hst := h.1.1
  have hcnt := h.1.2.2.2.2
  suffices hh : ∀ k, k ≤ G.1 → (∀ m, m < k → mSee1 M i m = true) → gZ G E 0 0 (gEnd G E 0 0 (gTt G) (fun v S' => v = some (.inl (bI (mSees G.1 M i))) ∧ S' = S)) (gTt G) 2 [some (.inr (some (0, 0, 0))), some (.inr (some (7, i, 0))), some (.inl (nI k)), none] [] S by
    refine gz_iconst (v := 0) (pc := 0) cx qd_G_seesJustTheRunning_0 (by decide) ?_
    refine gz_istore_n (pc := 1) cx qd_G_seesJustTheRunning_1 rfl (Nat.le_of_ble_eq_true rfl) ?_
    exact hh 0 (Nat.zero_le _) (fun m q => absurd q (by omega))
  refine g_upto ?_ ?_
  · intro hall
    refine gz_iload_n (pc := 2) cx qd_G_seesJustTheRunning_2 rfl rfl ?_
    refine gz_aload_n (pc := 3) cx qd_G_seesJustTheRunning_3 rfl rfl ?_
    refine gz_getV (pc := 4) cx qf_G_18 qd_G_seesJustTheRunning_4 gm_G rfl rfl hcnt ?_
    refine gz_icmp_ge (tgt := 83) (pc := 7) cx qd_G_seesJustTheRunning_7 (by decide) (fun _ => ?_) (fun h7 => absurd (Int32.le_refl _) h7)
    refine gz_iconst (v := 1) (pc := 83) cx qd_G_seesJustTheRunning_83 (by decide) ?_
    refine gz_ireturn (pc := 84) cx hr (by decide) qd_G_seesJustTheRunning_84 ?_
    have e : mSees G.1 M i = true := by
      unfold mSees
      rw [List.all_eq_true]
      intro m hm
      exact hall m (List.mem_range.mp hm)
    rw [e]
    exact ⟨rfl, rfl⟩
  · intro k hk ih hall
    have e0 := h.2.1 i k 0 hi hk (by decide)
    have e1 := h.2.1 i k 1 hi hk (by decide)
    have ek := h.2.1 k k 1 hk hk (by decide)
    have e5 := h.2.2.1 k 5 hk (by decide) (by decide) (by decide)
    refine gz_iload_n (pc := 2) cx qd_G_seesJustTheRunning_2 rfl rfl ?_
    refine gz_aload_n (pc := 3) cx qd_G_seesJustTheRunning_3 rfl rfl ?_
    refine gz_getV (pc := 4) cx qf_G_18 qd_G_seesJustTheRunning_4 gm_G rfl rfl hcnt ?_
    refine gz_icmp_ge (tgt := 83) (pc := 7) cx qd_G_seesJustTheRunning_7 (by decide) (fun h7 => absurd h7 (nI_ge hk (by omega))) (fun _ => ?_)
    refine gz_aload_n (pc := 10) cx qd_G_seesJustTheRunning_10 rfl rfl ?_
    refine gz_getR (pc := 11) cx qf_G_97 qd_G_seesJustTheRunning_11 (gm_N (by assumption)) rfl rfl (hst _ _ _ rfl) ?_
    refine gz_iload_n (pc := 14) cx qd_G_seesJustTheRunning_14 rfl rfl ?_
    refine gz_aaload (pc := 15) cx qd_G_seesJustTheRunning_15 (by first | exact gm_tb (by assumption) | exact gm_ns | exact gm_cf | exact gm_w (by assumption) | exact gm_nw (by assumption) | exact gm_rs (by assumption) | exact gm_M (by assumption) | exact gm_R (by assumption) (by assumption) | exact gm_za (by decide) (by decide)) rfl ⟨by decide, by decide, rfl⟩ (hst _ _ _ rfl) rfl (by assumption) (by omega) ?_
    refine gz_astore_n (pc := 16) cx qd_G_seesJustTheRunning_16 rfl (Nat.le_of_ble_eq_true rfl) ?_
    refine gz_aload_n (pc := 17) cx qd_G_seesJustTheRunning_17 rfl rfl ?_
    refine gz_getR (pc := 18) cx qf_G_35 qd_G_seesJustTheRunning_18 gm_G rfl rfl (hst _ _ _ rfl) ?_
    refine gz_iload_n (pc := 21) cx qd_G_seesJustTheRunning_21 rfl rfl ?_
    refine gz_aaload (pc := 22) cx qd_G_seesJustTheRunning_22 (by first | exact gm_tb (by assumption) | exact gm_ns | exact gm_cf | exact gm_w (by assumption) | exact gm_nw (by assumption) | exact gm_rs (by assumption) | exact gm_M (by assumption) | exact gm_R (by assumption) (by assumption) | exact gm_za (by decide) (by decide)) rfl ⟨by decide, by decide, rfl⟩ (hst _ _ _ rfl) rfl (by assumption) (by omega) ?_
    refine gz_getV (pc := 23) cx qf_G_49 qd_G_seesJustTheRunning_23 (gm_N (by assumption)) rfl rfl e5 ?_
    refine gz_if_eq (tgt := 60) (pc := 26) cx qd_G_seesJustTheRunning_26 (by decide) (fun h26 => ?_) (fun h26 => ?_)
    · refine gz_aload_n (pc := 60) cx qd_G_seesJustTheRunning_60 rfl rfl ?_
      refine gz_getV (pc := 61) cx qf_G_128 qd_G_seesJustTheRunning_61 (gm_E (by assumption) (by assumption)) rfl rfl e0 ?_
      refine gz_if_eq (tgt := 77) (pc := 64) cx qd_G_seesJustTheRunning_64 (by decide) (fun h64 => ?_) (fun h64 => ?_)
      · refine gz_iinc (pc := 77) cx qd_G_seesJustTheRunning_77 rfl (g_inc k) ?_
        refine gz_goto (tgt := 2) (pc := 80) cx qd_G_seesJustTheRunning_80 (by decide) ?_
        refine gz_weak (lv' := [some (.inr (some (0, 0, 0))), some (.inr (some (7, i, 0))), some (.inl (nI (k + 1))), none]) ⟨rfl, rfl, rfl, trivial⟩ ?_
        refine ih (fun m hm => ?_)
        by_cases e : m = k
        · subst e
          unfold mSee1
          rw [if_pos (show M.1 15 m 0 = 0 from h26)]
          exact decide_eq_true (Or.inl h64)
        · exact hall m (by omega)
      · refine gz_aload_n (pc := 67) cx qd_G_seesJustTheRunning_67 rfl rfl ?_
        refine gz_getV (pc := 68) cx qf_G_128 qd_G_seesJustTheRunning_68 (gm_E (by assumption) (by assumption)) rfl rfl e0 ?_
        refine gz_iconst (v := 3) (pc := 71) cx qd_G_seesJustTheRunning_71 (by decide) ?_
        refine gz_icmp_eq (tgt := 77) (pc := 72) cx qd_G_seesJustTheRunning_72 (by decide) (fun h72 => ?_) (fun h72 => ?_)
        · refine gz_iinc (pc := 77) cx qd_G_seesJustTheRunning_77 rfl (g_inc k) ?_
          refine gz_goto (tgt := 2) (pc := 80) cx qd_G_seesJustTheRunning_80 (by decide) ?_
          refine gz_weak (lv' := [some (.inr (some (0, 0, 0))), some (.inr (some (7, i, 0))), some (.inl (nI (k + 1))), none]) ⟨rfl, rfl, rfl, trivial⟩ ?_
          refine ih (fun m hm => ?_)
          by_cases e : m = k
          · subst e
            unfold mSee1
            rw [if_pos (show M.1 15 m 0 = 0 from h26)]
            exact decide_eq_true (Or.inr h72)
          · exact hall m (by omega)
        · refine gz_iconst (v := 0) (pc := 75) cx qd_G_seesJustTheRunning_75 (by decide) ?_
          refine gz_ireturn (pc := 76) cx hr (by decide) qd_G_seesJustTheRunning_76 ?_
          have e : mSees G.1 M i = false := by
            rw [Bool.eq_false_iff]
            intro q
            unfold mSees at q
            rw [List.all_eq_true] at q
            have := q k (List.mem_range.mpr hk)
            unfold mSee1 at this
            rw [if_pos (show M.1 15 k 0 = 0 from h26)] at this
            exact (of_decide_eq_true this).elim h64 h72
          rw [e]
          exact ⟨rfl, rfl⟩
    · refine gz_aload_n (pc := 29) cx qd_G_seesJustTheRunning_29 rfl rfl ?_
      refine gz_getV (pc := 30) cx qf_G_128 qd_G_seesJustTheRunning_30 (gm_E (by assumption) (by assumption)) rfl rfl e0 ?_
      refine gz_iconst (v := 1) (pc := 33) cx qd_G_seesJustTheRunning_33 (by decide) ?_
      refine gz_icmp_ne (tgt := 58) (pc := 34) cx qd_G_seesJustTheRunning_34 (by decide) (fun h34 => ?_) (fun h34 => ?_)
      · refine gz_iconst (v := 0) (pc := 58) cx qd_G_seesJustTheRunning_58 (by decide) ?_
        refine gz_ireturn (pc := 59) cx hr (by decide) qd_G_seesJustTheRunning_59 ?_
        have e : mSees G.1 M i = false := by
          rw [Bool.eq_false_iff]
          intro q
          unfold mSees at q
          rw [List.all_eq_true] at q
          have := q k (List.mem_range.mpr hk)
          unfold mSee1 at this
          rw [if_neg (show ¬ M.1 15 k 0 = 0 from h26)] at this
          exact h34 (of_decide_eq_true this).1
        rw [e]
        exact ⟨rfl, rfl⟩
      · refine gz_aload_n (pc := 37) cx qd_G_seesJustTheRunning_37 rfl rfl ?_
        refine gz_getV (pc := 38) cx qf_G_131 qd_G_seesJustTheRunning_38 (gm_E (by assumption) (by assumption)) rfl rfl e1 ?_
        refine gz_aload_n (pc := 41) cx qd_G_seesJustTheRunning_41 rfl rfl ?_
        refine gz_getR (pc := 42) cx qf_G_35 qd_G_seesJustTheRunning_42 gm_G rfl rfl (hst _ _ _ rfl) ?_
        refine gz_iload_n (pc := 45) cx qd_G_seesJustTheRunning_45 rfl rfl ?_
        refine gz_aaload (pc := 46) cx qd_G_seesJustTheRunning_46 (by first | exact gm_tb (by assumption) | exact gm_ns | exact gm_cf | exact gm_w (by assumption) | exact gm_nw (by assumption) | exact gm_rs (by assumption) | exact gm_M (by assumption) | exact gm_R (by assumption) (by assumption) | exact gm_za (by decide) (by decide)) rfl ⟨by decide, by decide, rfl⟩ (hst _ _ _ rfl) rfl (by assumption) (by omega) ?_
        refine gz_getR (pc := 47) cx qf_G_97 qd_G_seesJustTheRunning_47 (gm_N (by assumption)) rfl rfl (hst _ _ _ rfl) ?_
        refine gz_iload_n (pc := 50) cx qd_G_seesJustTheRunning_50 rfl rfl ?_
        refine gz_aaload (pc := 51) cx qd_G_seesJustTheRunning_51 (by first | exact gm_tb (by assumption) | exact gm_ns | exact gm_cf | exact gm_w (by assumption) | exact gm_nw (by assumption) | exact gm_rs (by assumption) | exact gm_M (by assumption) | exact gm_R (by assumption) (by assumption) | exact gm_za (by decide) (by decide)) rfl ⟨by decide, by decide, rfl⟩ (hst _ _ _ rfl) rfl (by assumption) (by omega) ?_
        refine gz_getV (pc := 52) cx qf_G_131 qd_G_seesJustTheRunning_52 (gm_E (by assumption) (by assumption)) rfl rfl ek ?_
        refine gz_icmp_eq (tgt := 77) (pc := 55) cx qd_G_seesJustTheRunning_55 (by decide) (fun h55 => ?_) (fun h55 => ?_)
        · refine gz_iinc (pc := 77) cx qd_G_seesJustTheRunning_77 rfl (g_inc k) ?_
          refine gz_goto (tgt := 2) (pc := 80) cx qd_G_seesJustTheRunning_80 (by decide) ?_
          refine gz_weak (lv' := [some (.inr (some (0, 0, 0))), some (.inr (some (7, i, 0))), some (.inl (nI (k + 1))), none]) ⟨rfl, rfl, rfl, trivial⟩ ?_
          refine ih (fun m hm => ?_)
          by_cases e : m = k
          · subst e
            unfold mSee1
            rw [if_neg (show ¬ M.1 15 m 0 = 0 from h26)]
            exact decide_eq_true ⟨h34, h55⟩
          · exact hall m (by omega)
        · refine gz_iconst (v := 0) (pc := 58) cx qd_G_seesJustTheRunning_58 (by decide) ?_
          refine gz_ireturn (pc := 59) cx hr (by decide) qd_G_seesJustTheRunning_59 ?_
          have e : mSees G.1 M i = false := by
            rw [Bool.eq_false_iff]
            intro q
            unfold mSees at q
            rw [List.all_eq_true] at q
            have := q k (List.mem_range.mpr hk)
            unfold mSee1 at this
            rw [if_neg (show ¬ M.1 15 k 0 = 0 from h26)] at this
            exact h55 (of_decide_eq_true this).2
          rw [e]
          exact ⟨rfl, rfl⟩
theorem gc_G_agreed {G : gG} {la : Launch} {M : mM} {p i0 : Nat} {kc : Option (Nat × List Int32)} {S : gS} (h : CR G M p i0 kc S) : gM G la qy_G_agreed qw_G_agreed 1 0 0 (gTt G) (gTt G) [.inr (some (0, 0, 0))] S (fun v S' => v = some (.inl (bI (oAgreed G.1 M))) ∧ S' = S) := by
  refine gM_of (cc := qc_G_agreed) (maxL := 2) (by decide) rfl (Nat.le_of_ble_eq_true rfl) ?_
  intro E cx hr hnm hcz hsz hEl
  subst hEl
  have h8 := h.1.2.1
  have hst := h.1.1
  have hcnt := h.1.2.2.2.2
  suffices hh : ∀ k, k ≤ G.1 → (∀ i, i < k → (decide (M.1 15 i 0 = 0) || mSees G.1 M i) = true) → gZ G E 0 0 (gEnd G E 0 0 (gTt G) (fun v S' => v = some (.inl (bI (oAgreed G.1 M))) ∧ S' = S)) (gTt G) 2 [some (.inr (some (0, 0, 0))), some (.inl (nI k))] [] S by
    refine gz_iconst (v := 0) (pc := 0) cx qd_G_agreed_0 (by decide) ?_
    refine gz_istore_n (pc := 1) cx qd_G_agreed_1 rfl (Nat.le_of_ble_eq_true rfl) ?_
    exact hh 0 (Nat.zero_le _) (fun m q => absurd q (by omega))
  refine g_upto ?_ ?_
  · intro hall
    refine gz_iload_n (pc := 2) cx qd_G_agreed_2 rfl rfl ?_
    refine gz_aload_n (pc := 3) cx qd_G_agreed_3 rfl rfl ?_
    refine gz_getV (pc := 4) cx qf_G_18 qd_G_agreed_4 gm_G rfl rfl hcnt ?_
    refine gz_icmp_ge (tgt := 43) (pc := 7) cx qd_G_agreed_7 (by decide) (fun _ => ?_) (fun h7 => absurd (Int32.le_refl _) h7)
    refine gz_iconst (v := 1) (pc := 43) cx qd_G_agreed_43 (by decide) ?_
    refine gz_ireturn (pc := 44) cx hr (by decide) qd_G_agreed_44 ?_
    have e : oAgreed G.1 M = true := by
      unfold oAgreed
      rw [List.all_eq_true]
      intro m hm
      exact hall m (List.mem_range.mp hm)
    rw [e]
    exact ⟨rfl, rfl⟩
  · intro k hk ih hall
    have e5 := h.2.2.1 k 5 hk (by decide) (by decide) (by decide)
    refine gz_iload_n (pc := 2) cx qd_G_agreed_2 rfl rfl ?_
    refine gz_aload_n (pc := 3) cx qd_G_agreed_3 rfl rfl ?_
    refine gz_getV (pc := 4) cx qf_G_18 qd_G_agreed_4 gm_G rfl rfl hcnt ?_
    refine gz_icmp_ge (tgt := 43) (pc := 7) cx qd_G_agreed_7 (by decide) (fun h7 => absurd h7 (nI_ge hk (by omega))) (fun _ => ?_)
    refine gz_aload_n (pc := 10) cx qd_G_agreed_10 rfl rfl ?_
    refine gz_getR (pc := 11) cx qf_G_35 qd_G_agreed_11 gm_G rfl rfl (hst _ _ _ rfl) ?_
    refine gz_iload_n (pc := 14) cx qd_G_agreed_14 rfl rfl ?_
    refine gz_aaload (pc := 15) cx qd_G_agreed_15 (by first | exact gm_tb (by assumption) | exact gm_ns | exact gm_cf | exact gm_w (by assumption) | exact gm_nw (by assumption) | exact gm_rs (by assumption) | exact gm_M (by assumption) | exact gm_R (by assumption) (by assumption) | exact gm_za (by decide) (by decide)) rfl ⟨by decide, by decide, rfl⟩ (hst _ _ _ rfl) rfl (by assumption) (by omega) ?_
    refine gz_getV (pc := 16) cx qf_G_49 qd_G_agreed_16 (gm_N (by assumption)) rfl rfl e5 ?_
    refine gz_if_eq (tgt := 37) (pc := 19) cx qd_G_agreed_19 (by decide) (fun h19 => ?_) (fun h19 => ?_)
    · refine gz_iinc (pc := 37) cx qd_G_agreed_37 rfl (g_inc k) ?_
      refine gz_goto (tgt := 2) (pc := 40) cx qd_G_agreed_40 (by decide) ?_
      refine ih (fun m hm => ?_)
      by_cases e : m = k
      · subst e
        rw [decide_eq_true (show M.1 15 m 0 = 0 from h19)]; rfl
      · exact hall m (by omega)
    · refine gz_aload_n (pc := 22) cx qd_G_agreed_22 rfl rfl ?_
      refine gz_aload_n (pc := 23) cx qd_G_agreed_23 rfl rfl ?_
      refine gz_getR (pc := 24) cx qf_G_35 qd_G_agreed_24 gm_G rfl rfl (hst _ _ _ rfl) ?_
      refine gz_iload_n (pc := 27) cx qd_G_agreed_27 rfl rfl ?_
      refine gz_aaload (pc := 28) cx qd_G_agreed_28 (by first | exact gm_tb (by assumption) | exact gm_ns | exact gm_cf | exact gm_w (by assumption) | exact gm_nw (by assumption) | exact gm_rs (by assumption) | exact gm_M (by assumption) | exact gm_R (by assumption) (by assumption) | exact gm_za (by decide) (by decide)) rfl ⟨by decide, by decide, rfl⟩ (hst _ _ _ rfl) rfl (by assumption) (by omega) ?_
      refine gz_callV (pc := 29) cx qv_G_108 qd_G_agreed_29 (gc_G_seesJustTheRunning hk h) (by decide) rfl gm_G rfl rfl rfl rfl (Nat.le_of_ble_eq_true rfl) ⟨Nat.zero_le _, Nat.zero_le _⟩ ?_
      rintro _ S' ⟨rfl, hS'⟩
      subst hS'
      refine gz_if_ne (tgt := 37) (pc := 32) cx qd_G_agreed_32 (by decide) (fun h32 => ?_) (fun h32 => ?_)
      · refine gz_iinc (pc := 37) cx qd_G_agreed_37 rfl (g_inc k) ?_
        refine gz_goto (tgt := 2) (pc := 40) cx qd_G_agreed_40 (by decide) ?_
        refine ih (fun m hm => ?_)
        by_cases e : m = k
        · subst e
          rw [bB_t h32, Bool.or_true]
        · exact hall m (by omega)
      · refine gz_iconst (v := 0) (pc := 35) cx qd_G_agreed_35 (by decide) ?_
        refine gz_ireturn (pc := 36) cx hr (by decide) qd_G_agreed_36 ?_
        have e : oAgreed G.1 M = false := by
          rw [Bool.eq_false_iff]
          intro q
          unfold oAgreed at q
          rw [List.all_eq_true] at q
          have := q k (List.mem_range.mpr hk)
          rw [decide_eq_false (show ¬ M.1 15 k 0 = 0 from h19), bB_f h32] at this
          exact absurd this (by decide)
        rw [e]
        exact ⟨rfl, rfl⟩
end
