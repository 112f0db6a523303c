section
-- ===== PART A: goes FIRST, ahead of the names: the tables' words, and 'selects' of the private methods out of them =====
/-- a private method of a class that the tables say can be made, by its rows of tables_1 -/
def lw_okq (q : MethodName × Nat) : Prop := (q.1.cls ≠ "java/lang/invoke/MethodHandle" ∧ q.1.cls ≠ "java/lang/invoke/VarHandle") ∧ Cond.instantiable q.1.cls q.2 ∈ tables_1 ∧ Cond.privateMethod q.1 ∈ tables_1 ∧ Cond.instanceMethod q.1 ∈ tables_1
theorem lw_p0 : lw_okq (⟨"GossipNodes", "isNode", "(I)Z"⟩, 5) := ⟨⟨by decide +kernel, by decide +kernel⟩, List.mem_of_getElem? (i := 11) (by decide +kernel), List.mem_of_getElem? (i := 232) (by decide +kernel), List.mem_of_getElem? (i := 233) (by decide +kernel)⟩
theorem lw_p1 : lw_okq (⟨"GossipNodes$Node", "loadTable", "(LGossipNodes$Message;)V"⟩, 18) := ⟨⟨by decide +kernel, by decide +kernel⟩, List.mem_of_getElem? (i := 93) (by decide +kernel), List.mem_of_getElem? (i := 268) (by decide +kernel), List.mem_of_getElem? (i := 269) (by decide +kernel)⟩
theorem lw_p2 : lw_okq (⟨"GossipNodes$Node", "loadQueued", "(LGossipNodes$Message;)V"⟩, 18) := ⟨⟨by decide +kernel, by decide +kernel⟩, List.mem_of_getElem? (i := 93) (by decide +kernel), List.mem_of_getElem? (i := 276) (by decide +kernel), List.mem_of_getElem? (i := 277) (by decide +kernel)⟩
theorem lw_p3 : lw_okq (⟨"GossipNodes$Node", "mostToSend", "(I)I"⟩, 18) := ⟨⟨by decide +kernel, by decide +kernel⟩, List.mem_of_getElem? (i := 93) (by decide +kernel), List.mem_of_getElem? (i := 280) (by decide +kernel), List.mem_of_getElem? (i := 281) (by decide +kernel)⟩
theorem lw_p4 : lw_okq (⟨"GossipNodes", "isRunning", "(I)Z"⟩, 5) := ⟨⟨by decide +kernel, by decide +kernel⟩, List.mem_of_getElem? (i := 11) (by decide +kernel), List.mem_of_getElem? (i := 288) (by decide +kernel), List.mem_of_getElem? (i := 289) (by decide +kernel)⟩
theorem lw_p5 : lw_okq (⟨"GossipNodes", "areCut", "(II)Z"⟩, 5) := ⟨⟨by decide +kernel, by decide +kernel⟩, List.mem_of_getElem? (i := 11) (by decide +kernel), List.mem_of_getElem? (i := 305) (by decide +kernel), List.mem_of_getElem? (i := 306) (by decide +kernel)⟩
theorem lw_p6 : lw_okq (⟨"GossipNodes", "deliverAll", "()I"⟩, 5) := ⟨⟨by decide +kernel, by decide +kernel⟩, List.mem_of_getElem? (i := 11) (by decide +kernel), List.mem_of_getElem? (i := 329) (by decide +kernel), List.mem_of_getElem? (i := 330) (by decide +kernel)⟩
theorem lw_p7 : lw_okq (⟨"GossipNodes$Node", "learn", "(IIIII)V"⟩, 18) := ⟨⟨by decide +kernel, by decide +kernel⟩, List.mem_of_getElem? (i := 93) (by decide +kernel), List.mem_of_getElem? (i := 341) (by decide +kernel), List.mem_of_getElem? (i := 342) (by decide +kernel)⟩
theorem lw_p8 : lw_okq (⟨"GossipNodes$Node", "refute", "(II)V"⟩, 18) := ⟨⟨by decide +kernel, by decide +kernel⟩, List.mem_of_getElem? (i := 93) (by decide +kernel), List.mem_of_getElem? (i := 345) (by decide +kernel), List.mem_of_getElem? (i := 346) (by decide +kernel)⟩
theorem lw_p9 : lw_okq (⟨"GossipNodes$Node", "raiseScore", "(I)V"⟩, 18) := ⟨⟨by decide +kernel, by decide +kernel⟩, List.mem_of_getElem? (i := 93) (by decide +kernel), List.mem_of_getElem? (i := 349) (by decide +kernel), List.mem_of_getElem? (i := 350) (by decide +kernel)⟩
theorem lw_p10 : lw_okq (⟨"GossipNodes$Node", "takeAck", "(LGossipNodes$Message;)V"⟩, 18) := ⟨⟨by decide +kernel, by decide +kernel⟩, List.mem_of_getElem? (i := 93) (by decide +kernel), List.mem_of_getElem? (i := 368) (by decide +kernel), List.mem_of_getElem? (i := 369) (by decide +kernel)⟩
theorem lw_p11 : lw_okq (⟨"GossipNodes$Node", "isOfProbe", "(LGossipNodes$Message;)Z"⟩, 18) := ⟨⟨by decide +kernel, by decide +kernel⟩, List.mem_of_getElem? (i := 93) (by decide +kernel), List.mem_of_getElem? (i := 372) (by decide +kernel), List.mem_of_getElem? (i := 373) (by decide +kernel)⟩
theorem lw_p12 : lw_okq (⟨"GossipNodes$Node", "endRelay", "(I)V"⟩, 18) := ⟨⟨by decide +kernel, by decide +kernel⟩, List.mem_of_getElem? (i := 93) (by decide +kernel), List.mem_of_getElem? (i := 380) (by decide +kernel), List.mem_of_getElem? (i := 381) (by decide +kernel)⟩
theorem lw_p13 : lw_okq (⟨"GossipNodes$Node", "takeAsk", "(LGossipNodes$Message;)V"⟩, 18) := ⟨⟨by decide +kernel, by decide +kernel⟩, List.mem_of_getElem? (i := 93) (by decide +kernel), List.mem_of_getElem? (i := 384) (by decide +kernel), List.mem_of_getElem? (i := 385) (by decide +kernel)⟩
theorem lw_p14 : lw_okq (⟨"GossipNodes$Node", "ageRelays", "()V"⟩, 18) := ⟨⟨by decide +kernel, by decide +kernel⟩, List.mem_of_getElem? (i := 93) (by decide +kernel), List.mem_of_getElem? (i := 392) (by decide +kernel), List.mem_of_getElem? (i := 393) (by decide +kernel)⟩
theorem lw_p15 : lw_okq (⟨"GossipNodes$Node", "buryOverdue", "(I)V"⟩, 18) := ⟨⟨by decide +kernel, by decide +kernel⟩, List.mem_of_getElem? (i := 93) (by decide +kernel), List.mem_of_getElem? (i := 396) (by decide +kernel), List.mem_of_getElem? (i := 397) (by decide +kernel)⟩
def lw_privs_1 : List (MethodName × Nat) := [(⟨"GossipNodes", "isNode", "(I)Z"⟩, 5), (⟨"GossipNodes$Node", "loadTable", "(LGossipNodes$Message;)V"⟩, 18), (⟨"GossipNodes$Node", "loadQueued", "(LGossipNodes$Message;)V"⟩, 18), (⟨"GossipNodes$Node", "mostToSend", "(I)I"⟩, 18), (⟨"GossipNodes", "isRunning", "(I)Z"⟩, 5), (⟨"GossipNodes", "areCut", "(II)Z"⟩, 5), (⟨"GossipNodes", "deliverAll", "()I"⟩, 5), (⟨"GossipNodes$Node", "learn", "(IIIII)V"⟩, 18), (⟨"GossipNodes$Node", "refute", "(II)V"⟩, 18), (⟨"GossipNodes$Node", "raiseScore", "(I)V"⟩, 18), (⟨"GossipNodes$Node", "takeAck", "(LGossipNodes$Message;)V"⟩, 18), (⟨"GossipNodes$Node", "isOfProbe", "(LGossipNodes$Message;)Z"⟩, 18), (⟨"GossipNodes$Node", "endRelay", "(I)V"⟩, 18), (⟨"GossipNodes$Node", "takeAsk", "(LGossipNodes$Message;)V"⟩, 18), (⟨"GossipNodes$Node", "ageRelays", "()V"⟩, 18), (⟨"GossipNodes$Node", "buryOverdue", "(I)V"⟩, 18)]
theorem lw_r1 : ∀ q ∈ lw_privs_1, lw_okq q := List.forall_mem_cons.mpr ⟨lw_p0, List.forall_mem_cons.mpr ⟨lw_p1, List.forall_mem_cons.mpr ⟨lw_p2, List.forall_mem_cons.mpr ⟨lw_p3, List.forall_mem_cons.mpr ⟨lw_p4, List.forall_mem_cons.mpr ⟨lw_p5, List.forall_mem_cons.mpr ⟨lw_p6, List.forall_mem_cons.mpr ⟨lw_p7, List.forall_mem_cons.mpr ⟨lw_p8, List.forall_mem_cons.mpr ⟨lw_p9, List.forall_mem_cons.mpr ⟨lw_p10, List.forall_mem_cons.mpr ⟨lw_p11, List.forall_mem_cons.mpr ⟨lw_p12, List.forall_mem_cons.mpr ⟨lw_p13, List.forall_mem_cons.mpr ⟨lw_p14, List.forall_mem_cons.mpr ⟨lw_p15, fun _ h => absurd h List.not_mem_nil⟩⟩⟩⟩⟩⟩⟩⟩⟩⟩⟩⟩⟩⟩⟩⟩
theorem lw_p16 : lw_okq (⟨"GossipNodes$Node", "restOrProbe", "()V"⟩, 18) := ⟨⟨by decide +kernel, by decide +kernel⟩, List.mem_of_getElem? (i := 93) (by decide +kernel), List.mem_of_getElem? (i := 406) (by decide +kernel), List.mem_of_getElem? (i := 407) (by decide +kernel)⟩
theorem lw_p17 : lw_okq (⟨"GossipNodes$Node", "nextBehind", "(II)I"⟩, 18) := ⟨⟨by decide +kernel, by decide +kernel⟩, List.mem_of_getElem? (i := 93) (by decide +kernel), List.mem_of_getElem? (i := 410) (by decide +kernel), List.mem_of_getElem? (i := 411) (by decide +kernel)⟩
theorem lw_p18 : lw_okq (⟨"GossipNodes$Node", "goOnProbing", "(I)V"⟩, 18) := ⟨⟨by decide +kernel, by decide +kernel⟩, List.mem_of_getElem? (i := 93) (by decide +kernel), List.mem_of_getElem? (i := 414) (by decide +kernel), List.mem_of_getElem? (i := 415) (by decide +kernel)⟩
theorem lw_p19 : lw_okq (⟨"GossipNodes$Node", "askOthers", "()V"⟩, 18) := ⟨⟨by decide +kernel, by decide +kernel⟩, List.mem_of_getElem? (i := 93) (by decide +kernel), List.mem_of_getElem? (i := 418) (by decide +kernel), List.mem_of_getElem? (i := 419) (by decide +kernel)⟩
theorem lw_p20 : lw_okq (⟨"GossipNodes$Node", "endProbe", "(I)V"⟩, 18) := ⟨⟨by decide +kernel, by decide +kernel⟩, List.mem_of_getElem? (i := 93) (by decide +kernel), List.mem_of_getElem? (i := 422) (by decide +kernel), List.mem_of_getElem? (i := 423) (by decide +kernel)⟩
theorem lw_p21 : lw_okq (⟨"GossipNodes$Node", "syncWithNext", "()V"⟩, 18) := ⟨⟨by decide +kernel, by decide +kernel⟩, List.mem_of_getElem? (i := 93) (by decide +kernel), List.mem_of_getElem? (i := 427) (by decide +kernel), List.mem_of_getElem? (i := 428) (by decide +kernel)⟩
theorem lw_p22 : lw_okq (⟨"GossipNodes$Message", "tellNews", "(I)I"⟩, 8) := ⟨⟨by decide +kernel, by decide +kernel⟩, List.mem_of_getElem? (i := 32) (by decide +kernel), List.mem_of_getElem? (i := 447) (by decide +kernel), List.mem_of_getElem? (i := 448) (by decide +kernel)⟩
theorem lw_p23 : lw_okq (⟨"GossipNodes$Node", "countQueued", "()I"⟩, 18) := ⟨⟨by decide +kernel, by decide +kernel⟩, List.mem_of_getElem? (i := 93) (by decide +kernel), List.mem_of_getElem? (i := 468) (by decide +kernel), List.mem_of_getElem? (i := 469) (by decide +kernel)⟩
theorem lw_p24 : lw_okq (⟨"GossipNodes", "seesJustTheRunning", "(LGossipNodes$Node;)Z"⟩, 5) := ⟨⟨by decide +kernel, by decide +kernel⟩, List.mem_of_getElem? (i := 11) (by decide +kernel), List.mem_of_getElem? (i := 480) (by decide +kernel), List.mem_of_getElem? (i := 481) (by decide +kernel)⟩
theorem lw_p25 : lw_okq (⟨"GossipNodesModel", "isNode", "(I)Z"⟩, 28) := ⟨⟨by decide +kernel, by decide +kernel⟩, List.mem_of_getElem? (i := 487) (by decide +kernel), List.mem_of_getElem? (i := 583) (by decide +kernel), List.mem_of_getElem? (i := 584) (by decide +kernel)⟩
theorem lw_p26 : lw_okq (⟨"GossipNodesModel", "enter", "(IIIII)V"⟩, 28) := ⟨⟨by decide +kernel, by decide +kernel⟩, List.mem_of_getElem? (i := 487) (by decide +kernel), List.mem_of_getElem? (i := 587) (by decide +kernel), List.mem_of_getElem? (i := 588) (by decide +kernel)⟩
theorem lw_p27 : lw_okq (⟨"GossipNodesModel", "announce", "(IIII)V"⟩, 28) := ⟨⟨by decide +kernel, by decide +kernel⟩, List.mem_of_getElem? (i := 487) (by decide +kernel), List.mem_of_getElem? (i := 591) (by decide +kernel), List.mem_of_getElem? (i := 592) (by decide +kernel)⟩
theorem lw_p28 : lw_okq (⟨"GossipNodesModel", "send", "(IIIIII)V"⟩, 28) := ⟨⟨by decide +kernel, by decide +kernel⟩, List.mem_of_getElem? (i := 487) (by decide +kernel), List.mem_of_getElem? (i := 595) (by decide +kernel), List.mem_of_getElem? (i := 596) (by decide +kernel)⟩
theorem lw_p29 : lw_okq (⟨"GossipNodesModel", "addQueued", "(I)V"⟩, 28) := ⟨⟨by decide +kernel, by decide +kernel⟩, List.mem_of_getElem? (i := 487) (by decide +kernel), List.mem_of_getElem? (i := 599) (by decide +kernel), List.mem_of_getElem? (i := 600) (by decide +kernel)⟩
theorem lw_p30 : lw_okq (⟨"GossipNodesModel", "mostQueued", "(I)I"⟩, 28) := ⟨⟨by decide +kernel, by decide +kernel⟩, List.mem_of_getElem? (i := 487) (by decide +kernel), List.mem_of_getElem? (i := 603) (by decide +kernel), List.mem_of_getElem? (i := 604) (by decide +kernel)⟩
theorem lw_p31 : lw_okq (⟨"GossipNodesModel", "addNews", "(III)V"⟩, 28) := ⟨⟨by decide +kernel, by decide +kernel⟩, List.mem_of_getElem? (i := 487) (by decide +kernel), List.mem_of_getElem? (i := 607) (by decide +kernel), List.mem_of_getElem? (i := 608) (by decide +kernel)⟩
def lw_privs_2 : List (MethodName × Nat) := [(⟨"GossipNodes$Node", "restOrProbe", "()V"⟩, 18), (⟨"GossipNodes$Node", "nextBehind", "(II)I"⟩, 18), (⟨"GossipNodes$Node", "goOnProbing", "(I)V"⟩, 18), (⟨"GossipNodes$Node", "askOthers", "()V"⟩, 18), (⟨"GossipNodes$Node", "endProbe", "(I)V"⟩, 18), (⟨"GossipNodes$Node", "syncWithNext", "()V"⟩, 18), (⟨"GossipNodes$Message", "tellNews", "(I)I"⟩, 8), (⟨"GossipNodes$Node", "countQueued", "()I"⟩, 18), (⟨"GossipNodes", "seesJustTheRunning", "(LGossipNodes$Node;)Z"⟩, 5), (⟨"GossipNodesModel", "isNode", "(I)Z"⟩, 28), (⟨"GossipNodesModel", "enter", "(IIIII)V"⟩, 28), (⟨"GossipNodesModel", "announce", "(IIII)V"⟩, 28), (⟨"GossipNodesModel", "send", "(IIIIII)V"⟩, 28), (⟨"GossipNodesModel", "addQueued", "(I)V"⟩, 28), (⟨"GossipNodesModel", "mostQueued", "(I)I"⟩, 28), (⟨"GossipNodesModel", "addNews", "(III)V"⟩, 28)]
theorem lw_r2 : ∀ q ∈ lw_privs_2, lw_okq q := List.forall_mem_cons.mpr ⟨lw_p16, List.forall_mem_cons.mpr ⟨lw_p17, List.forall_mem_cons.mpr ⟨lw_p18, List.forall_mem_cons.mpr ⟨lw_p19, List.forall_mem_cons.mpr ⟨lw_p20, List.forall_mem_cons.mpr ⟨lw_p21, List.forall_mem_cons.mpr ⟨lw_p22, List.forall_mem_cons.mpr ⟨lw_p23, List.forall_mem_cons.mpr ⟨lw_p24, List.forall_mem_cons.mpr ⟨lw_p25, List.forall_mem_cons.mpr ⟨lw_p26, List.forall_mem_cons.mpr ⟨lw_p27, List.forall_mem_cons.mpr ⟨lw_p28, List.forall_mem_cons.mpr ⟨lw_p29, List.forall_mem_cons.mpr ⟨lw_p30, List.forall_mem_cons.mpr ⟨lw_p31, fun _ h => absurd h List.not_mem_nil⟩⟩⟩⟩⟩⟩⟩⟩⟩⟩⟩⟩⟩⟩⟩⟩
theorem lw_p32 : lw_okq (⟨"GossipNodesModel", "addTable", "(I)V"⟩, 28) := ⟨⟨by decide +kernel, by decide +kernel⟩, List.mem_of_getElem? (i := 487) (by decide +kernel), List.mem_of_getElem? (i := 611) (by decide +kernel), List.mem_of_getElem? (i := 612) (by decide +kernel)⟩
theorem lw_p33 : lw_okq (⟨"GossipNodesModel", "isRunning", "(I)Z"⟩, 28) := ⟨⟨by decide +kernel, by decide +kernel⟩, List.mem_of_getElem? (i := 487) (by decide +kernel), List.mem_of_getElem? (i := 619) (by decide +kernel), List.mem_of_getElem? (i := 620) (by decide +kernel)⟩
theorem lw_p34 : lw_okq (⟨"GossipNodesModel", "remove", "(I)V"⟩, 28) := ⟨⟨by decide +kernel, by decide +kernel⟩, List.mem_of_getElem? (i := 487) (by decide +kernel), List.mem_of_getElem? (i := 635) (by decide +kernel), List.mem_of_getElem? (i := 636) (by decide +kernel)⟩
theorem lw_p35 : lw_okq (⟨"GossipNodesModel", "arrive", "()Z"⟩, 28) := ⟨⟨by decide +kernel, by decide +kernel⟩, List.mem_of_getElem? (i := 487) (by decide +kernel), List.mem_of_getElem? (i := 647) (by decide +kernel), List.mem_of_getElem? (i := 648) (by decide +kernel)⟩
theorem lw_p36 : lw_okq (⟨"GossipNodesModel", "learn", "(IIIII)V"⟩, 28) := ⟨⟨by decide +kernel, by decide +kernel⟩, List.mem_of_getElem? (i := 487) (by decide +kernel), List.mem_of_getElem? (i := 651) (by decide +kernel), List.mem_of_getElem? (i := 652) (by decide +kernel)⟩
theorem lw_p37 : lw_okq (⟨"GossipNodesModel", "acknowledged", "(IIII)V"⟩, 28) := ⟨⟨by decide +kernel, by decide +kernel⟩, List.mem_of_getElem? (i := 487) (by decide +kernel), List.mem_of_getElem? (i := 655) (by decide +kernel), List.mem_of_getElem? (i := 656) (by decide +kernel)⟩
theorem lw_p38 : lw_okq (⟨"GossipNodesModel", "relayOf", "(IIII)I"⟩, 28) := ⟨⟨by decide +kernel, by decide +kernel⟩, List.mem_of_getElem? (i := 487) (by decide +kernel), List.mem_of_getElem? (i := 659) (by decide +kernel), List.mem_of_getElem? (i := 660) (by decide +kernel)⟩
theorem lw_p39 : lw_okq (⟨"GossipNodesModel", "removeRelay", "(II)V"⟩, 28) := ⟨⟨by decide +kernel, by decide +kernel⟩, List.mem_of_getElem? (i := 487) (by decide +kernel), List.mem_of_getElem? (i := 663) (by decide +kernel), List.mem_of_getElem? (i := 664) (by decide +kernel)⟩
theorem lw_p40 : lw_okq (⟨"GossipNodesModel", "help", "(IIII)V"⟩, 28) := ⟨⟨by decide +kernel, by decide +kernel⟩, List.mem_of_getElem? (i := 487) (by decide +kernel), List.mem_of_getElem? (i := 667) (by decide +kernel), List.mem_of_getElem? (i := 668) (by decide +kernel)⟩
theorem lw_p41 : lw_okq (⟨"GossipNodesModel", "time", "(I)V"⟩, 28) := ⟨⟨by decide +kernel, by decide +kernel⟩, List.mem_of_getElem? (i := 487) (by decide +kernel), List.mem_of_getElem? (i := 671) (by decide +kernel), List.mem_of_getElem? (i := 672) (by decide +kernel)⟩
theorem lw_p42 : lw_okq (⟨"GossipNodesModel", "ageRelays", "(I)V"⟩, 28) := ⟨⟨by decide +kernel, by decide +kernel⟩, List.mem_of_getElem? (i := 487) (by decide +kernel), List.mem_of_getElem? (i := 675) (by decide +kernel), List.mem_of_getElem? (i := 676) (by decide +kernel)⟩
theorem lw_p43 : lw_okq (⟨"GossipNodesModel", "expire", "(I)V"⟩, 28) := ⟨⟨by decide +kernel, by decide +kernel⟩, List.mem_of_getElem? (i := 487) (by decide +kernel), List.mem_of_getElem? (i := 679) (by decide +kernel), List.mem_of_getElem? (i := 680) (by decide +kernel)⟩
theorem lw_p44 : lw_okq (⟨"GossipNodesModel", "probe", "(I)V"⟩, 28) := ⟨⟨by decide +kernel, by decide +kernel⟩, List.mem_of_getElem? (i := 487) (by decide +kernel), List.mem_of_getElem? (i := 686) (by decide +kernel), List.mem_of_getElem? (i := 687) (by decide +kernel)⟩
theorem lw_p45 : lw_okq (⟨"GossipNodesModel", "begin", "(I)V"⟩, 28) := ⟨⟨by decide +kernel, by decide +kernel⟩, List.mem_of_getElem? (i := 487) (by decide +kernel), List.mem_of_getElem? (i := 690) (by decide +kernel), List.mem_of_getElem? (i := 691) (by decide +kernel)⟩
theorem lw_p46 : lw_okq (⟨"GossipNodesModel", "nextOf", "(IIIZ)I"⟩, 28) := ⟨⟨by decide +kernel, by decide +kernel⟩, List.mem_of_getElem? (i := 487) (by decide +kernel), List.mem_of_getElem? (i := 694) (by decide +kernel), List.mem_of_getElem? (i := 695) (by decide +kernel)⟩
theorem lw_p47 : lw_okq (⟨"GossipNodesModel", "askOthers", "(I)V"⟩, 28) := ⟨⟨by decide +kernel, by decide +kernel⟩, List.mem_of_getElem? (i := 487) (by decide +kernel), List.mem_of_getElem? (i := 698) (by decide +kernel), List.mem_of_getElem? (i := 699) (by decide +kernel)⟩
def lw_privs_3 : List (MethodName × Nat) := [(⟨"GossipNodesModel", "addTable", "(I)V"⟩, 28), (⟨"GossipNodesModel", "isRunning", "(I)Z"⟩, 28), (⟨"GossipNodesModel", "remove", "(I)V"⟩, 28), (⟨"GossipNodesModel", "arrive", "()Z"⟩, 28), (⟨"GossipNodesModel", "learn", "(IIIII)V"⟩, 28), (⟨"GossipNodesModel", "acknowledged", "(IIII)V"⟩, 28), (⟨"GossipNodesModel", "relayOf", "(IIII)I"⟩, 28), (⟨"GossipNodesModel", "removeRelay", "(II)V"⟩, 28), (⟨"GossipNodesModel", "help", "(IIII)V"⟩, 28), (⟨"GossipNodesModel", "time", "(I)V"⟩, 28), (⟨"GossipNodesModel", "ageRelays", "(I)V"⟩, 28), (⟨"GossipNodesModel", "expire", "(I)V"⟩, 28), (⟨"GossipNodesModel", "probe", "(I)V"⟩, 28), (⟨"GossipNodesModel", "begin", "(I)V"⟩, 28), (⟨"GossipNodesModel", "nextOf", "(IIIZ)I"⟩, 28), (⟨"GossipNodesModel", "askOthers", "(I)V"⟩, 28)]
theorem lw_r3 : ∀ q ∈ lw_privs_3, lw_okq q := List.forall_mem_cons.mpr ⟨lw_p32, List.forall_mem_cons.mpr ⟨lw_p33, List.forall_mem_cons.mpr ⟨lw_p34, List.forall_mem_cons.mpr ⟨lw_p35, List.forall_mem_cons.mpr ⟨lw_p36, List.forall_mem_cons.mpr ⟨lw_p37, List.forall_mem_cons.mpr ⟨lw_p38, List.forall_mem_cons.mpr ⟨lw_p39, List.forall_mem_cons.mpr ⟨lw_p40, List.forall_mem_cons.mpr ⟨lw_p41, List.forall_mem_cons.mpr ⟨lw_p42, List.forall_mem_cons.mpr ⟨lw_p43, List.forall_mem_cons.mpr ⟨lw_p44, List.forall_mem_cons.mpr ⟨lw_p45, List.forall_mem_cons.mpr ⟨lw_p46, List.forall_mem_cons.mpr ⟨lw_p47, fun _ h => absurd h List.not_mem_nil⟩⟩⟩⟩⟩⟩⟩⟩⟩⟩⟩⟩⟩⟩⟩⟩
theorem lw_p48 : lw_okq (⟨"GossipNodesModel", "end", "(I)V"⟩, 28) := ⟨⟨by decide +kernel, by decide +kernel⟩, List.mem_of_getElem? (i := 487) (by decide +kernel), List.mem_of_getElem? (i := 702) (by decide +kernel), List.mem_of_getElem? (i := 703) (by decide +kernel)⟩
theorem lw_p49 : lw_okq (⟨"GossipNodesModel", "newsOf", "(I)I"⟩, 28) := ⟨⟨by decide +kernel, by decide +kernel⟩, List.mem_of_getElem? (i := 487) (by decide +kernel), List.mem_of_getElem? (i := 726) (by decide +kernel), List.mem_of_getElem? (i := 727) (by decide +kernel)⟩
def lw_privs_4 : List (MethodName × Nat) := [(⟨"GossipNodesModel", "end", "(I)V"⟩, 28), (⟨"GossipNodesModel", "newsOf", "(I)I"⟩, 28)]
theorem lw_r4 : ∀ q ∈ lw_privs_4, lw_okq q := List.forall_mem_cons.mpr ⟨lw_p48, List.forall_mem_cons.mpr ⟨lw_p49, fun _ h => absurd h List.not_mem_nil⟩⟩
def lw_privs : List (MethodName × Nat) := lw_privs_1 ++ (lw_privs_2 ++ (lw_privs_3 ++ (lw_privs_4)))
def lw_tbl : List Cond := k2_sels lw_privs ++ tables_1
theorem lw_privs_ok : ∀ q ∈ lw_privs, lw_okq q := by
  show ∀ q ∈ lw_privs_1 ++ (lw_privs_2 ++ (lw_privs_3 ++ (lw_privs_4))), lw_okq q
  exact List.forall_mem_append.mpr ⟨lw_r1, List.forall_mem_append.mpr ⟨lw_r2, List.forall_mem_append.mpr ⟨lw_r3, lw_r4⟩⟩⟩
end
section
/-! class tables, the list of words, names of methods (written by gen/names.py) -/
def qR_E : String := "GossipNodes$Entry"
def qT_E : u_T := fun k => match k with
  | 0 => ("GossipNodes$Entry", "state", "I", false)
  | 1 => ("GossipNodes$Entry", "incarnation", "I", false)
  | 2 => ("GossipNodes$Entry", "since", "I", false)
  | 3 => ("GossipNodes$Entry", "confirmers", "I", false)
  | _ => ("GossipNodes$Entry", "sendings", "I", false)
def qt_E : Nat → FieldType := fun k => match k with
  | 0 => .int
  | 1 => .int
  | 2 => .int
  | 3 => .int
  | _ => .int
theorem qn_E : ∀ a, a < 5 → ∀ b, b < 5 → a ≠ b → (qT_E a).2.1 ≠ (qT_E b).2.1 := by decide +kernel
theorem qk_E : ∀ k, k < 5 → parseFieldDescriptor (qT_E k).2.2.1 = some (qt_E k) := by decide +kernel
def qR_F : String := "GossipNodes$Flight"
def qT_F : u_T := fun k => match k with
  | 0 => ("GossipNodes$Flight", "waiting", "[LGossipNodes$Message;", false)
  | 1 => ("GossipNodes$Flight", "landed", "[LGossipNodes$Message;", false)
  | 2 => ("GossipNodes$Flight", "lost", "LGossipNodes$Message;", true)
  | _ => ("GossipNodes$Flight", "size", "I", false)
def qt_F : Nat → FieldType := fun k => match k with
  | 0 => .array (.object "GossipNodes$Message")
  | 1 => .array (.object "GossipNodes$Message")
  | 2 => .object "GossipNodes$Message"
  | _ => .int
theorem qn_F : ∀ a, a < 4 → ∀ b, b < 4 → a ≠ b → (qT_F a).2.1 ≠ (qT_F b).2.1 := by decide +kernel
theorem qk_F : ∀ k, k < 4 → parseFieldDescriptor (qT_F k).2.2.1 = some (qt_F k) := by decide +kernel
def qR_M : String := "GossipNodes$Message"
def qT_M : u_T := fun k => match k with
  | 0 => ("GossipNodes$Message", "kind", "I", false)
  | 1 => ("GossipNodes$Message", "sender", "I", false)
  | 2 => ("GossipNodes$Message", "receiver", "I", false)
  | 3 => ("GossipNodes$Message", "number", "I", false)
  | 4 => ("GossipNodes$Message", "origin", "I", false)
  | 5 => ("GossipNodes$Message", "target", "I", false)
  | 6 => ("GossipNodes$Message", "newsCount", "I", false)
  | _ => ("GossipNodes$Message", "news", "[I", true)
def qt_M : Nat → FieldType := fun k => match k with
  | 0 => .int
  | 1 => .int
  | 2 => .int
  | 3 => .int
  | 4 => .int
  | 5 => .int
  | 6 => .int
  | _ => .array (.int)
theorem qn_M : ∀ a, a < 8 → ∀ b, b < 8 → a ≠ b → (qT_M a).2.1 ≠ (qT_M b).2.1 := by decide +kernel
theorem qk_M : ∀ k, k < 8 → parseFieldDescriptor (qT_M k).2.2.1 = some (qt_M k) := by decide +kernel
def qR_N : String := "GossipNodes$Node"
def qT_N : u_T := fun k => match k with
  | 0 => ("GossipNodes$Node", "id", "I", true)
  | 1 => ("GossipNodes$Node", "count", "I", true)
  | 2 => ("GossipNodes$Node", "flight", "LGossipNodes$Flight;", true)
  | 3 => ("GossipNodes$Node", "table", "[LGossipNodes$Entry;", true)
  | 4 => ("GossipNodes$Node", "relays", "[LGossipNodes$Relay;", true)
  | 5 => ("GossipNodes$Node", "runs", "Z", false)
  | 6 => ("GossipNodes$Node", "began", "I", false)
  | 7 => ("GossipNodes$Node", "score", "I", false)
  | 8 => ("GossipNodes$Node", "relayCount", "I", false)
  | 9 => ("GossipNodes$Node", "rest", "I", false)
  | 10 => ("GossipNodes$Node", "probeNumber", "I", false)
  | 11 => ("GossipNodes$Node", "probed", "I", false)
  | 12 => ("GossipNodes$Node", "lastProbed", "I", false)
  | 13 => ("GossipNodes$Node", "clock", "I", false)
  | 14 => ("GossipNodes$Node", "answered", "Z", false)
  | 15 => ("GossipNodes$Node", "asked", "I", false)
  | 16 => ("GossipNodes$Node", "nacks", "I", false)
  | _ => ("GossipNodes$Node", "lastSynced", "I", false)
def qt_N : Nat → FieldType := fun k => match k with
  | 0 => .int
  | 1 => .int
  | 2 => .object "GossipNodes$Flight"
  | 3 => .array (.object "GossipNodes$Entry")
  | 4 => .array (.object "GossipNodes$Relay")
  | 5 => .boolean
  | 6 => .int
  | 7 => .int
  | 8 => .int
  | 9 => .int
  | 10 => .int
  | 11 => .int
  | 12 => .int
  | 13 => .int
  | 14 => .boolean
  | 15 => .int
  | 16 => .int
  | _ => .int
theorem qn_N : ∀ a, a < 18 → ∀ b, b < 18 → a ≠ b → (qT_N a).2.1 ≠ (qT_N b).2.1 := by decide +kernel
theorem qk_N : ∀ k, k < 18 → parseFieldDescriptor (qT_N k).2.2.1 = some (qt_N k) := by decide +kernel
def qR_R : String := "GossipNodes$Relay"
def qT_R : u_T := fun k => match k with
  | 0 => ("GossipNodes$Relay", "number", "I", false)
  | 1 => ("GossipNodes$Relay", "origin", "I", false)
  | 2 => ("GossipNodes$Relay", "target", "I", false)
  | _ => ("GossipNodes$Relay", "age", "I", false)
def qt_R : Nat → FieldType := fun k => match k with
  | 0 => .int
  | 1 => .int
  | 2 => .int
  | _ => .int
theorem qn_R : ∀ a, a < 4 → ∀ b, b < 4 → a ≠ b → (qT_R a).2.1 ≠ (qT_R b).2.1 := by decide +kernel
theorem qk_R : ∀ k, k < 4 → parseFieldDescriptor (qT_R k).2.2.1 = some (qt_R k) := by decide +kernel
def qR_G : String := "GossipNodes"
def qT_G : u_T := fun k => match k with
  | 0 => ("GossipNodes", "count", "I", true)
  | 1 => ("GossipNodes", "nodes", "[LGossipNodes$Node;", true)
  | 2 => ("GossipNodes", "cutFrom", "[I", true)
  | 3 => ("GossipNodes", "onTheWay", "LGossipNodes$Flight;", true)
  | _ => ("GossipNodes", "time", "I", false)
def qt_G : Nat → FieldType := fun k => match k with
  | 0 => .int
  | 1 => .array (.object "GossipNodes$Node")
  | 2 => .array (.int)
  | 3 => .object "GossipNodes$Flight"
  | _ => .int
theorem qn_G : ∀ a, a < 5 → ∀ b, b < 5 → a ≠ b → (qT_G a).2.1 ≠ (qT_G b).2.1 := by decide +kernel
theorem qk_G : ∀ k, k < 5 → parseFieldDescriptor (qT_G k).2.2.1 = some (qt_G k) := by decide +kernel
def qR_Z : String := "GossipNodesModel"
def qT_Z : u_T := fun k => match k with
  | 0 => ("GossipNodesModel", "nodes", "I", false)
  | 1 => ("GossipNodesModel", "now", "I", false)
  | 2 => ("GossipNodesModel", "flight", "I", false)
  | 3 => ("GossipNodesModel", "messages", "[I", false)
  | 4 => ("GossipNodesModel", "taken", "[I", false)
  | 5 => ("GossipNodesModel", "cut", "[Z", false)
  | 6 => ("GossipNodesModel", "runs", "[Z", false)
  | 7 => ("GossipNodesModel", "began", "[I", false)
  | 8 => ("GossipNodesModel", "score", "[I", false)
  | 9 => ("GossipNodesModel", "state", "[I", false)
  | 10 => ("GossipNodesModel", "incarnation", "[I", false)
  | 11 => ("GossipNodesModel", "since", "[I", false)
  | 12 => ("GossipNodesModel", "confirmed", "[I", false)
  | 13 => ("GossipNodesModel", "sendings", "[I", false)
  | 14 => ("GossipNodesModel", "newsState", "[I", false)
  | 15 => ("GossipNodesModel", "newsIncarnation", "[I", false)
  | 16 => ("GossipNodesModel", "relays", "[I", false)
  | 17 => ("GossipNodesModel", "relay", "[I", false)
  | 18 => ("GossipNodesModel", "probes", "[Z", false)
  | 19 => ("GossipNodesModel", "target", "[I", false)
  | 20 => ("GossipNodesModel", "clock", "[I", false)
  | 21 => ("GossipNodesModel", "answered", "[Z", false)
  | 22 => ("GossipNodesModel", "number", "[I", false)
  | 23 => ("GossipNodesModel", "rest", "[I", false)
  | 24 => ("GossipNodesModel", "asked", "[I", false)
  | 25 => ("GossipNodesModel", "nacks", "[I", false)
  | 26 => ("GossipNodesModel", "probed", "[I", false)
  | _ => ("GossipNodesModel", "synced", "[I", false)
def qt_Z : Nat → FieldType := fun k => match k with
  | 0 => .int
  | 1 => .int
  | 2 => .int
  | 3 => .array (.int)
  | 4 => .array (.int)
  | 5 => .array (.boolean)
  | 6 => .array (.boolean)
  | 7 => .array (.int)
  | 8 => .array (.int)
  | 9 => .array (.int)
  | 10 => .array (.int)
  | 11 => .array (.int)
  | 12 => .array (.int)
  | 13 => .array (.int)
  | 14 => .array (.int)
  | 15 => .array (.int)
  | 16 => .array (.int)
  | 17 => .array (.int)
  | 18 => .array (.boolean)
  | 19 => .array (.int)
  | 20 => .array (.int)
  | 21 => .array (.boolean)
  | 22 => .array (.int)
  | 23 => .array (.int)
  | 24 => .array (.int)
  | 25 => .array (.int)
  | 26 => .array (.int)
  | _ => .array (.int)
theorem qn_Z : ∀ a, a < 28 → ∀ b, b < 28 → a ≠ b → (qT_Z a).2.1 ≠ (qT_Z b).2.1 := by decide +kernel
theorem qk_Z : ∀ k, k < 28 → parseFieldDescriptor (qT_Z k).2.2.1 = some (qt_Z k) := by decide +kernel
def gCl : List vw_C := [(qR_E, qT_E, 5), (qR_F, qT_F, 4), (qR_M, qT_M, 8), (qR_N, qT_N, 18), (qR_R, qT_R, 4), (qR_G, qT_G, 5), (qR_Z, qT_Z, 28)]
def gNf : Nat → Nat := fun c => match c with
  | 0 => 5
  | 1 => 4
  | 2 => 8
  | 3 => 18
  | 4 => 4
  | 5 => 5
  | 6 => 28
  | _ => 0
def gRf : Nat → Nat → Bool := fun c f => match c with
  | 0 => false
  | 1 => f == 0 || f == 1 || f == 2
  | 2 => f == 7
  | 3 => f == 2 || f == 3 || f == 4
  | 4 => false
  | 5 => f == 1 || f == 2 || f == 3
  | 6 => f == 3 || f == 4 || f == 5 || f == 6 || f == 7 || f == 8 || f == 9 || f == 10 || f == 11 || f == 12 || f == 13 || f == 14 || f == 15 || f == 16 || f == 17 || f == 18 || f == 19 || f == 20 || f == 21 || f == 22 || f == 23 || f == 24 || f == 25 || f == 26 || f == 27
  | _ => false
/-- the words that go along with every call -/
def gTb : List Cond := lw_tbl.filter goodWord
theorem gTb_good : ∀ w ∈ gTb, goodWord w = true := fun w h => (List.mem_filter.mp h).2
theorem gTb_at {i : Nat} {w : Cond} (h : tables_1[i]? = some w) (hg : goodWord w = true) : w ∈ gTb := List.mem_filter.mpr ⟨List.mem_append_right _ (List.mem_of_getElem? h), hg⟩
theorem gTb_1 {i : Nat} {w : Cond} (h : tables_1_1[i]? = some w) (hg : goodWord w = true) : w ∈ gTb := List.mem_filter.mpr ⟨List.mem_append_right _ (List.mem_append_left _ (List.mem_of_getElem? h)), hg⟩
theorem gTb_2 {i : Nat} {w : Cond} (h : tables_1_2[i]? = some w) (hg : goodWord w = true) : w ∈ gTb := List.mem_filter.mpr ⟨List.mem_append_right _ (List.mem_append_right _ (List.mem_append_left _ (List.mem_of_getElem? h))), hg⟩
theorem gTb_3 {i : Nat} {w : Cond} (h : tables_1_3[i]? = some w) (hg : goodWord w = true) : w ∈ gTb := List.mem_filter.mpr ⟨List.mem_append_right _ (List.mem_append_right _ (List.mem_append_right _ (List.mem_append_left _ (List.mem_of_getElem? h)))), hg⟩
theorem gTb_4 {i : Nat} {w : Cond} (h : tables_1_4[i]? = some w) (hg : goodWord w = true) : w ∈ gTb := List.mem_filter.mpr ⟨List.mem_append_right _ (List.mem_append_right _ (List.mem_append_right _ (List.mem_append_right _ (List.mem_of_getElem? h)))), hg⟩
theorem gTb_sel {i : Nat} {q : MethodName × Nat} (h : lw_privs[i]? = some q) : Cond.selects q.1.cls q.1 q.1 ∈ gTb := List.mem_filter.mpr ⟨List.mem_append_left _ (List.mem_map.mpr ⟨q, List.mem_of_getElem? h, rfl⟩), rfl⟩
theorem qu_E : ∀ w ∈ u_ws qR_E qT_E 5, w ∈ gTb := by
  intro w h
  obtain ⟨k, hk, rfl⟩ := List.mem_map.mp h
  have hk := List.mem_range.mp hk
  match k, hk with
  | 0, _ => exact (gTb_1 (i := 122) (by rfl) rfl)
  | 1, _ => exact (gTb_1 (i := 124) (by rfl) rfl)
  | 2, _ => exact (gTb_1 (i := 126) (by rfl) rfl)
  | 3, _ => exact (gTb_1 (i := 128) (by rfl) rfl)
  | 4, _ => exact (gTb_1 (i := 130) (by rfl) rfl)
  | k + 5, hk => exact absurd hk (by omega)
theorem qu_F : ∀ w ∈ u_ws qR_F qT_F 4, w ∈ gTb := by
  intro w h
  obtain ⟨k, hk, rfl⟩ := List.mem_map.mp h
  have hk := List.mem_range.mp hk
  match k, hk with
  | 0, _ => exact (gTb_1 (i := 82) (by rfl) rfl)
  | 1, _ => exact (gTb_1 (i := 84) (by rfl) rfl)
  | 2, _ => exact (gTb_1 (i := 86) (by rfl) rfl)
  | 3, _ => exact (gTb_1 (i := 88) (by rfl) rfl)
  | k + 4, hk => exact absurd hk (by omega)
theorem qu_M : ∀ w ∈ u_ws qR_M qT_M 8, w ∈ gTb := by
  intro w h
  obtain ⟨k, hk, rfl⟩ := List.mem_map.mp h
  have hk := List.mem_range.mp hk
  match k, hk with
  | 0, _ => exact (gTb_1 (i := 57) (by rfl) rfl)
  | 1, _ => exact (gTb_1 (i := 59) (by rfl) rfl)
  | 2, _ => exact (gTb_1 (i := 61) (by rfl) rfl)
  | 3, _ => exact (gTb_1 (i := 63) (by rfl) rfl)
  | 4, _ => exact (gTb_1 (i := 65) (by rfl) rfl)
  | 5, _ => exact (gTb_1 (i := 67) (by rfl) rfl)
  | 6, _ => exact (gTb_1 (i := 69) (by rfl) rfl)
  | 7, _ => exact (gTb_1 (i := 71) (by rfl) rfl)
  | k + 8, hk => exact absurd hk (by omega)
theorem qu_N : ∀ w ∈ u_ws qR_N qT_N 18, w ∈ gTb := by
  intro w h
  obtain ⟨k, hk, rfl⟩ := List.mem_map.mp h
  have hk := List.mem_range.mp hk
  match k, hk with
  | 0, _ => exact (gTb_1 (i := 174) (by rfl) rfl)
  | 1, _ => exact (gTb_1 (i := 176) (by rfl) rfl)
  | 2, _ => exact (gTb_1 (i := 178) (by rfl) rfl)
  | 3, _ => exact (gTb_1 (i := 180) (by rfl) rfl)
  | 4, _ => exact (gTb_1 (i := 182) (by rfl) rfl)
  | 5, _ => exact (gTb_1 (i := 184) (by rfl) rfl)
  | 6, _ => exact (gTb_1 (i := 186) (by rfl) rfl)
  | 7, _ => exact (gTb_1 (i := 188) (by rfl) rfl)
  | 8, _ => exact (gTb_1 (i := 190) (by rfl) rfl)
  | 9, _ => exact (gTb_1 (i := 192) (by rfl) rfl)
  | 10, _ => exact (gTb_1 (i := 194) (by rfl) rfl)
  | 11, _ => exact (gTb_1 (i := 196) (by rfl) rfl)
  | 12, _ => exact (gTb_1 (i := 198) (by rfl) rfl)
  | 13, _ => exact (gTb_1 (i := 200) (by rfl) rfl)
  | 14, _ => exact (gTb_1 (i := 202) (by rfl) rfl)
  | 15, _ => exact (gTb_1 (i := 204) (by rfl) rfl)
  | 16, _ => exact (gTb_1 (i := 206) (by rfl) rfl)
  | 17, _ => exact (gTb_1 (i := 208) (by rfl) rfl)
  | k + 18, hk => exact absurd hk (by omega)
theorem qu_R : ∀ w ∈ u_ws qR_R qT_R 4, w ∈ gTb := by
  intro w h
  obtain ⟨k, hk, rfl⟩ := List.mem_map.mp h
  have hk := List.mem_range.mp hk
  match k, hk with
  | 0, _ => exact (gTb_1 (i := 145) (by rfl) rfl)
  | 1, _ => exact (gTb_1 (i := 147) (by rfl) rfl)
  | 2, _ => exact (gTb_1 (i := 149) (by rfl) rfl)
  | 3, _ => exact (gTb_1 (i := 151) (by rfl) rfl)
  | k + 4, hk => exact absurd hk (by omega)
theorem qu_G : ∀ w ∈ u_ws qR_G qT_G 5, w ∈ gTb := by
  intro w h
  obtain ⟨k, hk, rfl⟩ := List.mem_map.mp h
  have hk := List.mem_range.mp hk
  match k, hk with
  | 0, _ => exact (gTb_1 (i := 216) (by rfl) rfl)
  | 1, _ => exact (gTb_1 (i := 218) (by rfl) rfl)
  | 2, _ => exact (gTb_1 (i := 220) (by rfl) rfl)
  | 3, _ => exact (gTb_1 (i := 222) (by rfl) rfl)
  | 4, _ => exact (gTb_1 (i := 224) (by rfl) rfl)
  | k + 5, hk => exact absurd hk (by omega)
theorem qu_Z : ∀ w ∈ u_ws qR_Z qT_Z 28, w ∈ gTb := by
  intro w h
  obtain ⟨k, hk, rfl⟩ := List.mem_map.mp h
  have hk := List.mem_range.mp hk
  match k, hk with
  | 0, _ => exact (gTb_3 (i := 40) (by rfl) rfl)
  | 1, _ => exact (gTb_3 (i := 42) (by rfl) rfl)
  | 2, _ => exact (gTb_3 (i := 44) (by rfl) rfl)
  | 3, _ => exact (gTb_3 (i := 46) (by rfl) rfl)
  | 4, _ => exact (gTb_3 (i := 48) (by rfl) rfl)
  | 5, _ => exact (gTb_3 (i := 50) (by rfl) rfl)
  | 6, _ => exact (gTb_3 (i := 52) (by rfl) rfl)
  | 7, _ => exact (gTb_3 (i := 54) (by rfl) rfl)
  | 8, _ => exact (gTb_3 (i := 56) (by rfl) rfl)
  | 9, _ => exact (gTb_3 (i := 58) (by rfl) rfl)
  | 10, _ => exact (gTb_3 (i := 60) (by rfl) rfl)
  | 11, _ => exact (gTb_3 (i := 62) (by rfl) rfl)
  | 12, _ => exact (gTb_3 (i := 64) (by rfl) rfl)
  | 13, _ => exact (gTb_3 (i := 66) (by rfl) rfl)
  | 14, _ => exact (gTb_3 (i := 68) (by rfl) rfl)
  | 15, _ => exact (gTb_3 (i := 70) (by rfl) rfl)
  | 16, _ => exact (gTb_3 (i := 72) (by rfl) rfl)
  | 17, _ => exact (gTb_3 (i := 74) (by rfl) rfl)
  | 18, _ => exact (gTb_3 (i := 76) (by rfl) rfl)
  | 19, _ => exact (gTb_3 (i := 78) (by rfl) rfl)
  | 20, _ => exact (gTb_3 (i := 80) (by rfl) rfl)
  | 21, _ => exact (gTb_3 (i := 82) (by rfl) rfl)
  | 22, _ => exact (gTb_3 (i := 84) (by rfl) rfl)
  | 23, _ => exact (gTb_3 (i := 86) (by rfl) rfl)
  | 24, _ => exact (gTb_3 (i := 88) (by rfl) rfl)
  | 25, _ => exact (gTb_3 (i := 90) (by rfl) rfl)
  | 26, _ => exact (gTb_3 (i := 92) (by rfl) rfl)
  | 27, _ => exact (gTb_3 (i := 94) (by rfl) rfl)
  | k + 28, hk => exact absurd hk (by omega)
abbrev qc_G_init : ByteArray := prog_1_method_1_code
def qy_G_init : MethodName := ⟨"GossipNodes", "<init>", "(I)V"⟩
def qw_G_init : List Cond := .code qy_G_init qc_G_init 3 none :: gTb
theorem qi_G_init : Cond.code qy_G_init qc_G_init 3 none ∈ gTb := (gTb_1 (i := 14) (by rfl) rfl)
abbrev qc_F_init : ByteArray := prog_3_method_1_code
def qy_F_init : MethodName := ⟨"GossipNodes$Flight", "<init>", "()V"⟩
def qw_F_init : List Cond := .code qy_F_init qc_F_init 2 none :: gTb
theorem qi_F_init : Cond.code qy_F_init qc_F_init 2 none ∈ gTb := (gTb_1 (i := 28) (by rfl) rfl)
abbrev qc_M_init : ByteArray := prog_4_method_1_code
def qy_M_init : MethodName := ⟨"GossipNodes$Message", "<init>", "()V"⟩
def qw_M_init : List Cond := .code qy_M_init qc_M_init 1 none :: gTb
theorem qi_M_init : Cond.code qy_M_init qc_M_init 1 none ∈ gTb := (gTb_1 (i := 35) (by rfl) rfl)
abbrev qc_N_init : ByteArray := prog_5_method_1_code
def qy_N_init : MethodName := ⟨"GossipNodes$Node", "<init>", "(IILGossipNodes$Flight;)V"⟩
def qw_N_init : List Cond := .code qy_N_init qc_N_init 5 none :: gTb
theorem qi_N_init : Cond.code qy_N_init qc_N_init 5 none ∈ gTb := (gTb_1 (i := 96) (by rfl) rfl)
abbrev qc_E_init : ByteArray := prog_2_method_1_code
def qy_E_init : MethodName := ⟨"GossipNodes$Entry", "<init>", "()V"⟩
def qw_E_init : List Cond := .code qy_E_init qc_E_init 1 none :: gTb
theorem qi_E_init : Cond.code qy_E_init qc_E_init 1 none ∈ gTb := (gTb_1 (i := 105) (by rfl) rfl)
abbrev qc_R_init : ByteArray := prog_6_method_1_code
def qy_R_init : MethodName := ⟨"GossipNodes$Relay", "<init>", "()V"⟩
def qw_R_init : List Cond := .code qy_R_init qc_R_init 1 none :: gTb
theorem qi_R_init : Cond.code qy_R_init qc_R_init 1 none ∈ gTb := (gTb_1 (i := 136) (by rfl) rfl)
abbrev qc_G_start : ByteArray := prog_1_method_2_code
def qy_G_start : MethodName := ⟨"GossipNodes", "start", "(II)Z"⟩
def qw_G_start : List Cond := .code qy_G_start qc_G_start 3 (some .boolean) :: gTb
theorem qi_G_start : Cond.code qy_G_start qc_G_start 3 (some .boolean) ∈ gTb := (gTb_1 (i := 230) (by rfl) rfl)
abbrev qc_G_isNode : ByteArray := prog_1_method_16_code
def qy_G_isNode : MethodName := ⟨"GossipNodes", "isNode", "(I)Z"⟩
def qw_G_isNode : List Cond := .code qy_G_isNode qc_G_isNode 2 (some .boolean) :: gTb
theorem qi_G_isNode : Cond.code qy_G_isNode qc_G_isNode 2 (some .boolean) ∈ gTb := (gTb_1 (i := 234) (by rfl) rfl)
abbrev qc_N_begin : ByteArray := prog_5_method_2_code
def qy_N_begin : MethodName := ⟨"GossipNodes$Node", "begin", "(I)V"⟩
def qw_N_begin : List Cond := .code qy_N_begin qc_N_begin 3 none :: gTb
theorem qi_N_begin : Cond.code qy_N_begin qc_N_begin 3 none ∈ gTb := (gTb_1 (i := 238) (by rfl) rfl)
abbrev qc_E_forget : ByteArray := prog_2_method_2_code
def qy_E_forget : MethodName := ⟨"GossipNodes$Entry", "forget", "()V"⟩
def qw_E_forget : List Cond := .code qy_E_forget qc_E_forget 1 none :: gTb
theorem qi_E_forget : Cond.code qy_E_forget qc_E_forget 1 none ∈ gTb := (gTb_2 (i := 2) (by rfl) rfl)
abbrev qc_E_become : ByteArray := prog_2_method_3_code
def qy_E_become : MethodName := ⟨"GossipNodes$Entry", "become", "(III)V"⟩
def qw_E_become : List Cond := .code qy_E_become qc_E_become 4 none :: gTb
theorem qi_E_become : Cond.code qy_E_become qc_E_become 4 none ∈ gTb := (gTb_2 (i := 6) (by rfl) rfl)
abbrev qc_E_announce : ByteArray := prog_2_method_5_code
def qy_E_announce : MethodName := ⟨"GossipNodes$Entry", "announce", "()V"⟩
def qw_E_announce : List Cond := .code qy_E_announce qc_E_announce 1 none :: gTb
theorem qi_E_announce : Cond.code qy_E_announce qc_E_announce 1 none ∈ gTb := (gTb_2 (i := 10) (by rfl) rfl)
abbrev qc_N_send : ByteArray := prog_5_method_4_code
def qy_N_send : MethodName := ⟨"GossipNodes$Node", "send", "(IIIII)V"⟩
def qw_N_send : List Cond := .code qy_N_send qc_N_send 7 none :: gTb
theorem qi_N_send : Cond.code qy_N_send qc_N_send 7 none ∈ gTb := (gTb_2 (i := 14) (by rfl) rfl)
abbrev qc_F_next : ByteArray := prog_3_method_2_code
def qy_F_next : MethodName := ⟨"GossipNodes$Flight", "next", "()LGossipNodes$Message;"⟩
def qw_F_next : List Cond := .code qy_F_next qc_F_next 1 (some (.object "GossipNodes$Message")) :: gTb
theorem qi_F_next : Cond.code qy_F_next qc_F_next 1 (some (.object "GossipNodes$Message")) ∈ gTb := (gTb_2 (i := 18) (by rfl) rfl)
abbrev qc_M_address : ByteArray := prog_4_method_2_code
def qy_M_address : MethodName := ⟨"GossipNodes$Message", "address", "(III)V"⟩
def qw_M_address : List Cond := .code qy_M_address qc_M_address 4 none :: gTb
theorem qi_M_address : Cond.code qy_M_address qc_M_address 4 none ∈ gTb := (gTb_2 (i := 22) (by rfl) rfl)
abbrev qc_M_concern : ByteArray := prog_4_method_3_code
def qy_M_concern : MethodName := ⟨"GossipNodes$Message", "concern", "(III)V"⟩
def qw_M_concern : List Cond := .code qy_M_concern qc_M_concern 4 none :: gTb
theorem qi_M_concern : Cond.code qy_M_concern qc_M_concern 4 none ∈ gTb := (gTb_2 (i := 26) (by rfl) rfl)
abbrev qc_N_loadTable : ByteArray := prog_5_method_5_code
def qy_N_loadTable : MethodName := ⟨"GossipNodes$Node", "loadTable", "(LGossipNodes$Message;)V"⟩
def qw_N_loadTable : List Cond := .code qy_N_loadTable qc_N_loadTable 3 none :: gTb
theorem qi_N_loadTable : Cond.code qy_N_loadTable qc_N_loadTable 3 none ∈ gTb := (gTb_2 (i := 30) (by rfl) rfl)
abbrev qc_M_carry : ByteArray := prog_4_method_4_code
def qy_M_carry : MethodName := ⟨"GossipNodes$Message", "carry", "(ILGossipNodes$Entry;)V"⟩
def qw_M_carry : List Cond := .code qy_M_carry qc_M_carry 4 none :: gTb
theorem qi_M_carry : Cond.code qy_M_carry qc_M_carry 4 none ∈ gTb := (gTb_2 (i := 34) (by rfl) rfl)
abbrev qc_N_loadQueued : ByteArray := prog_5_method_6_code
def qy_N_loadQueued : MethodName := ⟨"GossipNodes$Node", "loadQueued", "(LGossipNodes$Message;)V"⟩
def qw_N_loadQueued : List Cond := .code qy_N_loadQueued qc_N_loadQueued 5 none :: gTb
theorem qi_N_loadQueued : Cond.code qy_N_loadQueued qc_N_loadQueued 5 none ∈ gTb := (gTb_2 (i := 38) (by rfl) rfl)
abbrev qc_N_mostToSend : ByteArray := prog_5_method_7_code
def qy_N_mostToSend : MethodName := ⟨"GossipNodes$Node", "mostToSend", "(I)I"⟩
def qw_N_mostToSend : List Cond := .code qy_N_mostToSend qc_N_mostToSend 5 (some .int) :: gTb
theorem qi_N_mostToSend : Cond.code qy_N_mostToSend qc_N_mostToSend 5 (some .int) ∈ gTb := (gTb_2 (i := 42) (by rfl) rfl)
abbrev qc_G_crash : ByteArray := prog_1_method_3_code
def qy_G_crash : MethodName := ⟨"GossipNodes", "crash", "(I)Z"⟩
def qw_G_crash : List Cond := .code qy_G_crash qc_G_crash 2 (some .boolean) :: gTb
theorem qi_G_crash : Cond.code qy_G_crash qc_G_crash 2 (some .boolean) ∈ gTb := (gTb_2 (i := 46) (by rfl) rfl)
abbrev qc_G_isRunning : ByteArray := prog_1_method_17_code
def qy_G_isRunning : MethodName := ⟨"GossipNodes", "isRunning", "(I)Z"⟩
def qw_G_isRunning : List Cond := .code qy_G_isRunning qc_G_isRunning 2 (some .boolean) :: gTb
theorem qi_G_isRunning : Cond.code qy_G_isRunning qc_G_isRunning 2 (some .boolean) ∈ gTb := (gTb_2 (i := 50) (by rfl) rfl)
abbrev qc_G_leave : ByteArray := prog_1_method_4_code
def qy_G_leave : MethodName := ⟨"GossipNodes", "leave", "(I)Z"⟩
def qw_G_leave : List Cond := .code qy_G_leave qc_G_leave 2 (some .boolean) :: gTb
theorem qi_G_leave : Cond.code qy_G_leave qc_G_leave 2 (some .boolean) ∈ gTb := (gTb_2 (i := 54) (by rfl) rfl)
abbrev qc_N_sayFarewell : ByteArray := prog_5_method_3_code
def qy_N_sayFarewell : MethodName := ⟨"GossipNodes$Node", "sayFarewell", "(I)V"⟩
def qw_N_sayFarewell : List Cond := .code qy_N_sayFarewell qc_N_sayFarewell 3 none :: gTb
theorem qi_N_sayFarewell : Cond.code qy_N_sayFarewell qc_N_sayFarewell 3 none ∈ gTb := (gTb_2 (i := 58) (by rfl) rfl)
abbrev qc_G_cut : ByteArray := prog_1_method_5_code
def qy_G_cut : MethodName := ⟨"GossipNodes", "cut", "(IIZ)Z"⟩
def qw_G_cut : List Cond := .code qy_G_cut qc_G_cut 4 (some .boolean) :: gTb
theorem qi_G_cut : Cond.code qy_G_cut qc_G_cut 4 (some .boolean) ∈ gTb := (gTb_2 (i := 63) (by rfl) rfl)
abbrev qc_G_areCut : ByteArray := prog_1_method_18_code
def qy_G_areCut : MethodName := ⟨"GossipNodes", "areCut", "(II)Z"⟩
def qw_G_areCut : List Cond := .code qy_G_areCut qc_G_areCut 3 (some .boolean) :: gTb
theorem qi_G_areCut : Cond.code qy_G_areCut qc_G_areCut 3 (some .boolean) ∈ gTb := (gTb_2 (i := 67) (by rfl) rfl)
abbrev qc_G_drop : ByteArray := prog_1_method_6_code
def qy_G_drop : MethodName := ⟨"GossipNodes", "drop", "(I)Z"⟩
def qw_G_drop : List Cond := .code qy_G_drop qc_G_drop 2 (some .boolean) :: gTb
theorem qi_G_drop : Cond.code qy_G_drop qc_G_drop 2 (some .boolean) ∈ gTb := (gTb_2 (i := 71) (by rfl) rfl)
abbrev qc_F_lose : ByteArray := prog_3_method_3_code
def qy_F_lose : MethodName := ⟨"GossipNodes$Flight", "lose", "(I)Z"⟩
def qw_F_lose : List Cond := .code qy_F_lose qc_F_lose 4 (some .boolean) :: gTb
theorem qi_F_lose : Cond.code qy_F_lose qc_F_lose 4 (some .boolean) ∈ gTb := (gTb_2 (i := 75) (by rfl) rfl)
abbrev qc_G_swap : ByteArray := prog_1_method_7_code
def qy_G_swap : MethodName := ⟨"GossipNodes", "swap", "(I)Z"⟩
def qw_G_swap : List Cond := .code qy_G_swap qc_G_swap 2 (some .boolean) :: gTb
theorem qi_G_swap : Cond.code qy_G_swap qc_G_swap 2 (some .boolean) ∈ gTb := (gTb_2 (i := 79) (by rfl) rfl)
abbrev qc_F_overtake : ByteArray := prog_3_method_4_code
def qy_F_overtake : MethodName := ⟨"GossipNodes$Flight", "overtake", "(I)Z"⟩
def qw_F_overtake : List Cond := .code qy_F_overtake qc_F_overtake 3 (some .boolean) :: gTb
theorem qi_F_overtake : Cond.code qy_F_overtake qc_F_overtake 3 (some .boolean) ∈ gTb := (gTb_2 (i := 83) (by rfl) rfl)
abbrev qc_G_ticks : ByteArray := prog_1_method_8_code
def qy_G_ticks : MethodName := ⟨"GossipNodes", "ticks", "(I)I"⟩
def qw_G_ticks : List Cond := .code qy_G_ticks qc_G_ticks 5 (some .int) :: gTb
theorem qi_G_ticks : Cond.code qy_G_ticks qc_G_ticks 5 (some .int) ∈ gTb := (gTb_2 (i := 87) (by rfl) rfl)
abbrev qc_G_deliverAll : ByteArray := prog_1_method_19_code
def qy_G_deliverAll : MethodName := ⟨"GossipNodes", "deliverAll", "()I"⟩
def qw_G_deliverAll : List Cond := .code qy_G_deliverAll qc_G_deliverAll 6 (some .int) :: gTb
theorem qi_G_deliverAll : Cond.code qy_G_deliverAll qc_G_deliverAll 6 (some .int) ∈ gTb := (gTb_2 (i := 91) (by rfl) rfl)
abbrev qc_F_land : ByteArray := prog_3_method_5_code
def qy_F_land : MethodName := ⟨"GossipNodes$Flight", "land", "()I"⟩
def qw_F_land : List Cond := .code qy_F_land qc_F_land 3 (some .int) :: gTb
theorem qi_F_land : Cond.code qy_F_land qc_F_land 3 (some .int) ∈ gTb := (gTb_2 (i := 95) (by rfl) rfl)
abbrev qc_N_receive : ByteArray := prog_5_method_8_code
def qy_N_receive : MethodName := ⟨"GossipNodes$Node", "receive", "(LGossipNodes$Message;I)V"⟩
def qw_N_receive : List Cond := .code qy_N_receive qc_N_receive 5 none :: gTb
theorem qi_N_receive : Cond.code qy_N_receive qc_N_receive 5 none ∈ gTb := (gTb_2 (i := 99) (by rfl) rfl)
abbrev qc_N_learn : ByteArray := prog_5_method_9_code
def qy_N_learn : MethodName := ⟨"GossipNodes$Node", "learn", "(IIIII)V"⟩
def qw_N_learn : List Cond := .code qy_N_learn qc_N_learn 7 none :: gTb
theorem qi_N_learn : Cond.code qy_N_learn qc_N_learn 7 none ∈ gTb := (gTb_2 (i := 103) (by rfl) rfl)
abbrev qc_N_refute : ByteArray := prog_5_method_10_code
def qy_N_refute : MethodName := ⟨"GossipNodes$Node", "refute", "(II)V"⟩
def qw_N_refute : List Cond := .code qy_N_refute qc_N_refute 4 none :: gTb
theorem qi_N_refute : Cond.code qy_N_refute qc_N_refute 4 none ∈ gTb := (gTb_2 (i := 107) (by rfl) rfl)
abbrev qc_N_raiseScore : ByteArray := prog_5_method_11_code
def qy_N_raiseScore : MethodName := ⟨"GossipNodes$Node", "raiseScore", "(I)V"⟩
def qw_N_raiseScore : List Cond := .code qy_N_raiseScore qc_N_raiseScore 2 none :: gTb
theorem qi_N_raiseScore : Cond.code qy_N_raiseScore qc_N_raiseScore 2 none ∈ gTb := (gTb_2 (i := 111) (by rfl) rfl)
abbrev qc_E_isBelow : ByteArray := prog_2_method_6_code
def qy_E_isBelow : MethodName := ⟨"GossipNodes$Entry", "isBelow", "(II)Z"⟩
def qw_E_isBelow : List Cond := .code qy_E_isBelow qc_E_isBelow 3 (some .boolean) :: gTb
theorem qi_E_isBelow : Cond.code qy_E_isBelow qc_E_isBelow 3 (some .boolean) ∈ gTb := (gTb_2 (i := 117) (by rfl) rfl)
abbrev qc_E_becomeSuspect : ByteArray := prog_2_method_4_code
def qy_E_becomeSuspect : MethodName := ⟨"GossipNodes$Entry", "becomeSuspect", "(III)V"⟩
def qw_E_becomeSuspect : List Cond := .code qy_E_becomeSuspect qc_E_becomeSuspect 4 none :: gTb
theorem qi_E_becomeSuspect : Cond.code qy_E_becomeSuspect qc_E_becomeSuspect 4 none ∈ gTb := (gTb_2 (i := 121) (by rfl) rfl)
abbrev qc_E_isSameSuspicion : ByteArray := prog_2_method_7_code
def qy_E_isSameSuspicion : MethodName := ⟨"GossipNodes$Entry", "isSameSuspicion", "(II)Z"⟩
def qw_E_isSameSuspicion : List Cond := .code qy_E_isSameSuspicion qc_E_isSameSuspicion 3 (some .boolean) :: gTb
theorem qi_E_isSameSuspicion : Cond.code qy_E_isSameSuspicion qc_E_isSameSuspicion 3 (some .boolean) ∈ gTb := (gTb_2 (i := 126) (by rfl) rfl)
abbrev qc_N_takeAck : ByteArray := prog_5_method_13_code
def qy_N_takeAck : MethodName := ⟨"GossipNodes$Node", "takeAck", "(LGossipNodes$Message;)V"⟩
def qw_N_takeAck : List Cond := .code qy_N_takeAck qc_N_takeAck 3 none :: gTb
theorem qi_N_takeAck : Cond.code qy_N_takeAck qc_N_takeAck 3 none ∈ gTb := (gTb_2 (i := 130) (by rfl) rfl)
abbrev qc_N_isOfProbe : ByteArray := prog_5_method_12_code
def qy_N_isOfProbe : MethodName := ⟨"GossipNodes$Node", "isOfProbe", "(LGossipNodes$Message;)Z"⟩
def qw_N_isOfProbe : List Cond := .code qy_N_isOfProbe qc_N_isOfProbe 2 (some .boolean) :: gTb
theorem qi_N_isOfProbe : Cond.code qy_N_isOfProbe qc_N_isOfProbe 2 (some .boolean) ∈ gTb := (gTb_2 (i := 134) (by rfl) rfl)
abbrev qc_R_isFor : ByteArray := prog_6_method_2_code
def qy_R_isFor : MethodName := ⟨"GossipNodes$Relay", "isFor", "(LGossipNodes$Message;)Z"⟩
def qw_R_isFor : List Cond := .code qy_R_isFor qc_R_isFor 2 (some .boolean) :: gTb
theorem qi_R_isFor : Cond.code qy_R_isFor qc_R_isFor 2 (some .boolean) ∈ gTb := (gTb_2 (i := 138) (by rfl) rfl)
abbrev qc_N_endRelay : ByteArray := prog_5_method_15_code
def qy_N_endRelay : MethodName := ⟨"GossipNodes$Node", "endRelay", "(I)V"⟩
def qw_N_endRelay : List Cond := .code qy_N_endRelay qc_N_endRelay 4 none :: gTb
theorem qi_N_endRelay : Cond.code qy_N_endRelay qc_N_endRelay 4 none ∈ gTb := (gTb_2 (i := 142) (by rfl) rfl)
abbrev qc_N_takeAsk : ByteArray := prog_5_method_14_code
def qy_N_takeAsk : MethodName := ⟨"GossipNodes$Node", "takeAsk", "(LGossipNodes$Message;)V"⟩
def qw_N_takeAsk : List Cond := .code qy_N_takeAsk qc_N_takeAsk 3 none :: gTb
theorem qi_N_takeAsk : Cond.code qy_N_takeAsk qc_N_takeAsk 3 none ∈ gTb := (gTb_2 (i := 146) (by rfl) rfl)
abbrev qc_N_timer : ByteArray := prog_5_method_16_code
def qy_N_timer : MethodName := ⟨"GossipNodes$Node", "timer", "(I)V"⟩
def qw_N_timer : List Cond := .code qy_N_timer qc_N_timer 2 none :: gTb
theorem qi_N_timer : Cond.code qy_N_timer qc_N_timer 2 none ∈ gTb := (gTb_2 (i := 150) (by rfl) rfl)
abbrev qc_N_ageRelays : ByteArray := prog_5_method_17_code
def qy_N_ageRelays : MethodName := ⟨"GossipNodes$Node", "ageRelays", "()V"⟩
def qw_N_ageRelays : List Cond := .code qy_N_ageRelays qc_N_ageRelays 5 none :: gTb
theorem qi_N_ageRelays : Cond.code qy_N_ageRelays qc_N_ageRelays 5 none ∈ gTb := (gTb_2 (i := 154) (by rfl) rfl)
abbrev qc_N_buryOverdue : ByteArray := prog_5_method_18_code
def qy_N_buryOverdue : MethodName := ⟨"GossipNodes$Node", "buryOverdue", "(I)V"⟩
def qw_N_buryOverdue : List Cond := .code qy_N_buryOverdue qc_N_buryOverdue 5 none :: gTb
theorem qi_N_buryOverdue : Cond.code qy_N_buryOverdue qc_N_buryOverdue 5 none ∈ gTb := (gTb_2 (i := 158) (by rfl) rfl)
abbrev qc_J_bitCount : ByteArray := prog_9_method_49_code
def qy_J_bitCount : MethodName := ⟨"java/lang/Integer", "bitCount", "(I)I"⟩
def qw_J_bitCount : List Cond := .code qy_J_bitCount qc_J_bitCount 1 (some .int) :: gTb
theorem qi_J_bitCount : Cond.code qy_J_bitCount qc_J_bitCount 1 (some .int) ∈ gTb := (gTb_2 (i := 161) (by rfl) rfl)
abbrev qc_N_restOrProbe : ByteArray := prog_5_method_19_code
def qy_N_restOrProbe : MethodName := ⟨"GossipNodes$Node", "restOrProbe", "()V"⟩
def qw_N_restOrProbe : List Cond := .code qy_N_restOrProbe qc_N_restOrProbe 2 none :: gTb
theorem qi_N_restOrProbe : Cond.code qy_N_restOrProbe qc_N_restOrProbe 2 none ∈ gTb := (gTb_2 (i := 168) (by rfl) rfl)
abbrev qc_N_nextBehind : ByteArray := prog_5_method_20_code
def qy_N_nextBehind : MethodName := ⟨"GossipNodes$Node", "nextBehind", "(II)I"⟩
def qw_N_nextBehind : List Cond := .code qy_N_nextBehind qc_N_nextBehind 5 (some .int) :: gTb
theorem qi_N_nextBehind : Cond.code qy_N_nextBehind qc_N_nextBehind 5 (some .int) ∈ gTb := (gTb_2 (i := 172) (by rfl) rfl)
abbrev qc_N_goOnProbing : ByteArray := prog_5_method_21_code
def qy_N_goOnProbing : MethodName := ⟨"GossipNodes$Node", "goOnProbing", "(I)V"⟩
def qw_N_goOnProbing : List Cond := .code qy_N_goOnProbing qc_N_goOnProbing 2 none :: gTb
theorem qi_N_goOnProbing : Cond.code qy_N_goOnProbing qc_N_goOnProbing 2 none ∈ gTb := (gTb_2 (i := 176) (by rfl) rfl)
abbrev qc_N_askOthers : ByteArray := prog_5_method_22_code
def qy_N_askOthers : MethodName := ⟨"GossipNodes$Node", "askOthers", "()V"⟩
def qw_N_askOthers : List Cond := .code qy_N_askOthers qc_N_askOthers 3 none :: gTb
theorem qi_N_askOthers : Cond.code qy_N_askOthers qc_N_askOthers 3 none ∈ gTb := (gTb_2 (i := 180) (by rfl) rfl)
abbrev qc_N_endProbe : ByteArray := prog_5_method_23_code
def qy_N_endProbe : MethodName := ⟨"GossipNodes$Node", "endProbe", "(I)V"⟩
def qw_N_endProbe : List Cond := .code qy_N_endProbe qc_N_endProbe 3 none :: gTb
theorem qi_N_endProbe : Cond.code qy_N_endProbe qc_N_endProbe 3 none ∈ gTb := (gTb_2 (i := 184) (by rfl) rfl)
abbrev qc_N_syncWithNext : ByteArray := prog_5_method_24_code
def qy_N_syncWithNext : MethodName := ⟨"GossipNodes$Node", "syncWithNext", "()V"⟩
def qw_N_syncWithNext : List Cond := .code qy_N_syncWithNext qc_N_syncWithNext 2 none :: gTb
theorem qi_N_syncWithNext : Cond.code qy_N_syncWithNext qc_N_syncWithNext 2 none ∈ gTb := (gTb_2 (i := 189) (by rfl) rfl)
abbrev qc_G_now : ByteArray := prog_1_method_9_code
def qy_G_now : MethodName := ⟨"GossipNodes", "now", "()I"⟩
def qw_G_now : List Cond := .code qy_G_now qc_G_now 1 (some .int) :: gTb
theorem qi_G_now : Cond.code qy_G_now qc_G_now 1 (some .int) ∈ gTb := (gTb_2 (i := 193) (by rfl) rfl)
abbrev qc_G_flight : ByteArray := prog_1_method_10_code
def qy_G_flight : MethodName := ⟨"GossipNodes", "flight", "()I"⟩
def qw_G_flight : List Cond := .code qy_G_flight qc_G_flight 1 (some .int) :: gTb
theorem qi_G_flight : Cond.code qy_G_flight qc_G_flight 1 (some .int) ∈ gTb := (gTb_2 (i := 197) (by rfl) rfl)
abbrev qc_G_message : ByteArray := prog_1_method_11_code
def qy_G_message : MethodName := ⟨"GossipNodes", "message", "(II)I"⟩
def qw_G_message : List Cond := .code qy_G_message qc_G_message 3 (some .int) :: gTb
theorem qi_G_message : Cond.code qy_G_message qc_G_message 3 (some .int) ∈ gTb := (gTb_2 (i := 201) (by rfl) rfl)
abbrev qc_M_tell : ByteArray := prog_4_method_5_code
def qy_M_tell : MethodName := ⟨"GossipNodes$Message", "tell", "(I)I"⟩
def qw_M_tell : List Cond := .code qy_M_tell qc_M_tell 2 (some .int) :: gTb
theorem qi_M_tell : Cond.code qy_M_tell qc_M_tell 2 (some .int) ∈ gTb := (gTb_2 (i := 205) (by rfl) rfl)
abbrev qc_M_tellNews : ByteArray := prog_4_method_6_code
def qy_M_tellNews : MethodName := ⟨"GossipNodes$Message", "tellNews", "(I)I"⟩
def qw_M_tellNews : List Cond := .code qy_M_tellNews qc_M_tellNews 2 (some .int) :: gTb
theorem qi_M_tellNews : Cond.code qy_M_tellNews qc_M_tellNews 2 (some .int) ∈ gTb := (gTb_2 (i := 209) (by rfl) rfl)
abbrev qc_G_view : ByteArray := prog_1_method_12_code
def qy_G_view : MethodName := ⟨"GossipNodes", "view", "(III)I"⟩
def qw_G_view : List Cond := .code qy_G_view qc_G_view 4 (some .int) :: gTb
theorem qi_G_view : Cond.code qy_G_view qc_G_view 4 (some .int) ∈ gTb := (gTb_2 (i := 213) (by rfl) rfl)
abbrev qc_E_tell : ByteArray := prog_2_method_8_code
def qy_E_tell : MethodName := ⟨"GossipNodes$Entry", "tell", "(I)I"⟩
def qw_E_tell : List Cond := .code qy_E_tell qc_E_tell 2 (some .int) :: gTb
theorem qi_E_tell : Cond.code qy_E_tell qc_E_tell 2 (some .int) ∈ gTb := (gTb_2 (i := 217) (by rfl) rfl)
abbrev qc_G_node : ByteArray := prog_1_method_13_code
def qy_G_node : MethodName := ⟨"GossipNodes", "node", "(II)I"⟩
def qw_G_node : List Cond := .code qy_G_node qc_G_node 3 (some .int) :: gTb
theorem qi_G_node : Cond.code qy_G_node qc_G_node 3 (some .int) ∈ gTb := (gTb_2 (i := 222) (by rfl) rfl)
abbrev qc_N_tell : ByteArray := prog_5_method_25_code
def qy_N_tell : MethodName := ⟨"GossipNodes$Node", "tell", "(I)I"⟩
def qw_N_tell : List Cond := .code qy_N_tell qc_N_tell 2 (some .int) :: gTb
theorem qi_N_tell : Cond.code qy_N_tell qc_N_tell 2 (some .int) ∈ gTb := (gTb_2 (i := 226) (by rfl) rfl)
abbrev qc_N_countQueued : ByteArray := prog_5_method_26_code
def qy_N_countQueued : MethodName := ⟨"GossipNodes$Node", "countQueued", "()I"⟩
def qw_N_countQueued : List Cond := .code qy_N_countQueued qc_N_countQueued 3 (some .int) :: gTb
theorem qi_N_countQueued : Cond.code qy_N_countQueued qc_N_countQueued 3 (some .int) ∈ gTb := (gTb_2 (i := 230) (by rfl) rfl)
abbrev qc_G_queued : ByteArray := prog_1_method_14_code
def qy_G_queued : MethodName := ⟨"GossipNodes", "queued", "(II)I"⟩
def qw_G_queued : List Cond := .code qy_G_queued qc_G_queued 3 (some .int) :: gTb
theorem qi_G_queued : Cond.code qy_G_queued qc_G_queued 3 (some .int) ∈ gTb := (gTb_2 (i := 234) (by rfl) rfl)
abbrev qc_G_agreed : ByteArray := prog_1_method_15_code
def qy_G_agreed : MethodName := ⟨"GossipNodes", "agreed", "()Z"⟩
def qw_G_agreed : List Cond := .code qy_G_agreed qc_G_agreed 2 (some .boolean) :: gTb
theorem qi_G_agreed : Cond.code qy_G_agreed qc_G_agreed 2 (some .boolean) ∈ gTb := (gTb_2 (i := 238) (by rfl) rfl)
abbrev qc_G_seesJustTheRunning : ByteArray := prog_1_method_20_code
def qy_G_seesJustTheRunning : MethodName := ⟨"GossipNodes", "seesJustTheRunning", "(LGossipNodes$Node;)Z"⟩
def qw_G_seesJustTheRunning : List Cond := .code qy_G_seesJustTheRunning qc_G_seesJustTheRunning 4 (some .boolean) :: gTb
theorem qi_G_seesJustTheRunning : Cond.code qy_G_seesJustTheRunning qc_G_seesJustTheRunning 4 (some .boolean) ∈ gTb := (gTb_3 (i := 2) (by rfl) rfl)
abbrev qc_L_cell : ByteArray := method_2_code
def qy_L_cell : MethodName := ⟨"GossipNodesLaw", "cell", "([II)I"⟩
def qw_L_cell : List Cond := .code qy_L_cell qc_L_cell 2 (some .int) :: gTb
theorem qi_L_cell : Cond.code qy_L_cell qc_L_cell 2 (some .int) ∈ gTb := (gTb_3 (i := 5) (by rfl) rfl)
abbrev qc_Z_init : ByteArray := prog_8_method_1_code
def qy_Z_init : MethodName := ⟨"GossipNodesModel", "<init>", "(I)V"⟩
def qw_Z_init : List Cond := .code qy_Z_init qc_Z_init 2 none :: gTb
theorem qi_Z_init : Cond.code qy_Z_init qc_Z_init 2 none ∈ gTb := (gTb_3 (i := 10) (by rfl) rfl)
abbrev qc_Z_start : ByteArray := prog_8_method_11_code
def qy_Z_start : MethodName := ⟨"GossipNodesModel", "start", "(II)Z"⟩
def qw_Z_start : List Cond := .code qy_Z_start qc_Z_start 4 (some .boolean) :: gTb
theorem qi_Z_start : Cond.code qy_Z_start qc_Z_start 4 (some .boolean) ∈ gTb := (gTb_3 (i := 101) (by rfl) rfl)
abbrev qc_Z_isNode : ByteArray := prog_8_method_2_code
def qy_Z_isNode : MethodName := ⟨"GossipNodesModel", "isNode", "(I)Z"⟩
def qw_Z_isNode : List Cond := .code qy_Z_isNode qc_Z_isNode 2 (some .boolean) :: gTb
theorem qi_Z_isNode : Cond.code qy_Z_isNode qc_Z_isNode 2 (some .boolean) ∈ gTb := (gTb_3 (i := 105) (by rfl) rfl)
abbrev qc_Z_enter : ByteArray := prog_8_method_10_code
def qy_Z_enter : MethodName := ⟨"GossipNodesModel", "enter", "(IIIII)V"⟩
def qw_Z_enter : List Cond := .code qy_Z_enter qc_Z_enter 7 none :: gTb
theorem qi_Z_enter : Cond.code qy_Z_enter qc_Z_enter 7 none ∈ gTb := (gTb_3 (i := 109) (by rfl) rfl)
abbrev qc_Z_announce : ByteArray := prog_8_method_9_code
def qy_Z_announce : MethodName := ⟨"GossipNodesModel", "announce", "(IIII)V"⟩
def qw_Z_announce : List Cond := .code qy_Z_announce qc_Z_announce 5 none :: gTb
theorem qi_Z_announce : Cond.code qy_Z_announce qc_Z_announce 5 none ∈ gTb := (gTb_3 (i := 113) (by rfl) rfl)
abbrev qc_Z_send : ByteArray := prog_8_method_8_code
def qy_Z_send : MethodName := ⟨"GossipNodesModel", "send", "(IIIIII)V"⟩
def qw_Z_send : List Cond := .code qy_Z_send qc_Z_send 8 none :: gTb
theorem qi_Z_send : Cond.code qy_Z_send qc_Z_send 8 none ∈ gTb := (gTb_3 (i := 117) (by rfl) rfl)
abbrev qc_Z_addQueued : ByteArray := prog_8_method_6_code
def qy_Z_addQueued : MethodName := ⟨"GossipNodesModel", "addQueued", "(I)V"⟩
def qw_Z_addQueued : List Cond := .code qy_Z_addQueued qc_Z_addQueued 4 none :: gTb
theorem qi_Z_addQueued : Cond.code qy_Z_addQueued qc_Z_addQueued 4 none ∈ gTb := (gTb_3 (i := 121) (by rfl) rfl)
abbrev qc_Z_mostQueued : ByteArray := prog_8_method_4_code
def qy_Z_mostQueued : MethodName := ⟨"GossipNodesModel", "mostQueued", "(I)I"⟩
def qw_Z_mostQueued : List Cond := .code qy_Z_mostQueued qc_Z_mostQueued 4 (some .int) :: gTb
theorem qi_Z_mostQueued : Cond.code qy_Z_mostQueued qc_Z_mostQueued 4 (some .int) ∈ gTb := (gTb_3 (i := 125) (by rfl) rfl)
abbrev qc_Z_addNews : ByteArray := prog_8_method_5_code
def qy_Z_addNews : MethodName := ⟨"GossipNodesModel", "addNews", "(III)V"⟩
def qw_Z_addNews : List Cond := .code qy_Z_addNews qc_Z_addNews 5 none :: gTb
theorem qi_Z_addNews : Cond.code qy_Z_addNews qc_Z_addNews 5 none ∈ gTb := (gTb_3 (i := 129) (by rfl) rfl)
abbrev qc_Z_addTable : ByteArray := prog_8_method_7_code
def qy_Z_addTable : MethodName := ⟨"GossipNodesModel", "addTable", "(I)V"⟩
def qw_Z_addTable : List Cond := .code qy_Z_addTable qc_Z_addTable 3 none :: gTb
theorem qi_Z_addTable : Cond.code qy_Z_addTable qc_Z_addTable 3 none ∈ gTb := (gTb_3 (i := 133) (by rfl) rfl)
abbrev qc_Z_crash : ByteArray := prog_8_method_12_code
def qy_Z_crash : MethodName := ⟨"GossipNodesModel", "crash", "(I)Z"⟩
def qw_Z_crash : List Cond := .code qy_Z_crash qc_Z_crash 2 (some .boolean) :: gTb
theorem qi_Z_crash : Cond.code qy_Z_crash qc_Z_crash 2 (some .boolean) ∈ gTb := (gTb_3 (i := 137) (by rfl) rfl)
abbrev qc_Z_isRunning : ByteArray := prog_8_method_3_code
def qy_Z_isRunning : MethodName := ⟨"GossipNodesModel", "isRunning", "(I)Z"⟩
def qw_Z_isRunning : List Cond := .code qy_Z_isRunning qc_Z_isRunning 2 (some .boolean) :: gTb
theorem qi_Z_isRunning : Cond.code qy_Z_isRunning qc_Z_isRunning 2 (some .boolean) ∈ gTb := (gTb_3 (i := 141) (by rfl) rfl)
abbrev qc_Z_leave : ByteArray := prog_8_method_13_code
def qy_Z_leave : MethodName := ⟨"GossipNodesModel", "leave", "(I)Z"⟩
def qw_Z_leave : List Cond := .code qy_Z_leave qc_Z_leave 3 (some .boolean) :: gTb
theorem qi_Z_leave : Cond.code qy_Z_leave qc_Z_leave 3 (some .boolean) ∈ gTb := (gTb_3 (i := 145) (by rfl) rfl)
abbrev qc_Z_cut : ByteArray := prog_8_method_14_code
def qy_Z_cut : MethodName := ⟨"GossipNodesModel", "cut", "(IIZ)Z"⟩
def qw_Z_cut : List Cond := .code qy_Z_cut qc_Z_cut 4 (some .boolean) :: gTb
theorem qi_Z_cut : Cond.code qy_Z_cut qc_Z_cut 4 (some .boolean) ∈ gTb := (gTb_3 (i := 149) (by rfl) rfl)
abbrev qc_Z_drop : ByteArray := prog_8_method_16_code
def qy_Z_drop : MethodName := ⟨"GossipNodesModel", "drop", "(I)Z"⟩
def qw_Z_drop : List Cond := .code qy_Z_drop qc_Z_drop 2 (some .boolean) :: gTb
theorem qi_Z_drop : Cond.code qy_Z_drop qc_Z_drop 2 (some .boolean) ∈ gTb := (gTb_3 (i := 153) (by rfl) rfl)
abbrev qc_Z_remove : ByteArray := prog_8_method_15_code
def qy_Z_remove : MethodName := ⟨"GossipNodesModel", "remove", "(I)V"⟩
def qw_Z_remove : List Cond := .code qy_Z_remove qc_Z_remove 3 none :: gTb
theorem qi_Z_remove : Cond.code qy_Z_remove qc_Z_remove 3 none ∈ gTb := (gTb_3 (i := 157) (by rfl) rfl)
abbrev qc_Z_swap : ByteArray := prog_8_method_17_code
def qy_Z_swap : MethodName := ⟨"GossipNodesModel", "swap", "(I)Z"⟩
def qw_Z_swap : List Cond := .code qy_Z_swap qc_Z_swap 4 (some .boolean) :: gTb
theorem qi_Z_swap : Cond.code qy_Z_swap qc_Z_swap 4 (some .boolean) ∈ gTb := (gTb_3 (i := 161) (by rfl) rfl)
abbrev qc_Z_ticks : ByteArray := prog_8_method_33_code
def qy_Z_ticks : MethodName := ⟨"GossipNodesModel", "ticks", "(I)I"⟩
def qw_Z_ticks : List Cond := .code qy_Z_ticks qc_Z_ticks 6 (some .int) :: gTb
theorem qi_Z_ticks : Cond.code qy_Z_ticks qc_Z_ticks 6 (some .int) ∈ gTb := (gTb_3 (i := 165) (by rfl) rfl)
abbrev qc_Z_arrive : ByteArray := prog_8_method_23_code
def qy_Z_arrive : MethodName := ⟨"GossipNodesModel", "arrive", "()Z"⟩
def qw_Z_arrive : List Cond := .code qy_Z_arrive qc_Z_arrive 9 (some .boolean) :: gTb
theorem qi_Z_arrive : Cond.code qy_Z_arrive qc_Z_arrive 9 (some .boolean) ∈ gTb := (gTb_3 (i := 169) (by rfl) rfl)
abbrev qc_Z_learn : ByteArray := prog_8_method_18_code
def qy_Z_learn : MethodName := ⟨"GossipNodesModel", "learn", "(IIIII)V"⟩
def qw_Z_learn : List Cond := .code qy_Z_learn qc_Z_learn 9 none :: gTb
theorem qi_Z_learn : Cond.code qy_Z_learn qc_Z_learn 9 none ∈ gTb := (gTb_3 (i := 173) (by rfl) rfl)
abbrev qc_Z_acknowledged : ByteArray := prog_8_method_21_code
def qy_Z_acknowledged : MethodName := ⟨"GossipNodesModel", "acknowledged", "(IIII)V"⟩
def qw_Z_acknowledged : List Cond := .code qy_Z_acknowledged qc_Z_acknowledged 6 none :: gTb
theorem qi_Z_acknowledged : Cond.code qy_Z_acknowledged qc_Z_acknowledged 6 none ∈ gTb := (gTb_3 (i := 177) (by rfl) rfl)
abbrev qc_Z_relayOf : ByteArray := prog_8_method_20_code
def qy_Z_relayOf : MethodName := ⟨"GossipNodesModel", "relayOf", "(IIII)I"⟩
def qw_Z_relayOf : List Cond := .code qy_Z_relayOf qc_Z_relayOf 8 (some .int) :: gTb
theorem qi_Z_relayOf : Cond.code qy_Z_relayOf qc_Z_relayOf 8 (some .int) ∈ gTb := (gTb_3 (i := 181) (by rfl) rfl)
abbrev qc_Z_removeRelay : ByteArray := prog_8_method_19_code
def qy_Z_removeRelay : MethodName := ⟨"GossipNodesModel", "removeRelay", "(II)V"⟩
def qw_Z_removeRelay : List Cond := .code qy_Z_removeRelay qc_Z_removeRelay 4 none :: gTb
theorem qi_Z_removeRelay : Cond.code qy_Z_removeRelay qc_Z_removeRelay 4 none ∈ gTb := (gTb_3 (i := 185) (by rfl) rfl)
abbrev qc_Z_help : ByteArray := prog_8_method_22_code
def qy_Z_help : MethodName := ⟨"GossipNodesModel", "help", "(IIII)V"⟩
def qw_Z_help : List Cond := .code qy_Z_help qc_Z_help 6 none :: gTb
theorem qi_Z_help : Cond.code qy_Z_help qc_Z_help 6 none ∈ gTb := (gTb_3 (i := 189) (by rfl) rfl)
abbrev qc_Z_time : ByteArray := prog_8_method_32_code
def qy_Z_time : MethodName := ⟨"GossipNodesModel", "time", "(I)V"⟩
def qw_Z_time : List Cond := .code qy_Z_time qc_Z_time 3 none :: gTb
theorem qi_Z_time : Cond.code qy_Z_time qc_Z_time 3 none ∈ gTb := (gTb_3 (i := 193) (by rfl) rfl)
abbrev qc_Z_ageRelays : ByteArray := prog_8_method_24_code
def qy_Z_ageRelays : MethodName := ⟨"GossipNodesModel", "ageRelays", "(I)V"⟩
def qw_Z_ageRelays : List Cond := .code qy_Z_ageRelays qc_Z_ageRelays 5 none :: gTb
theorem qi_Z_ageRelays : Cond.code qy_Z_ageRelays qc_Z_ageRelays 5 none ∈ gTb := (gTb_3 (i := 197) (by rfl) rfl)
abbrev qc_Z_expire : ByteArray := prog_8_method_26_code
def qy_Z_expire : MethodName := ⟨"GossipNodesModel", "expire", "(I)V"⟩
def qw_Z_expire : List Cond := .code qy_Z_expire qc_Z_expire 5 none :: gTb
theorem qi_Z_expire : Cond.code qy_Z_expire qc_Z_expire 5 none ∈ gTb := (gTb_3 (i := 201) (by rfl) rfl)
abbrev qc_Z_count : ByteArray := prog_8_method_25_code
def qy_Z_count : MethodName := ⟨"GossipNodesModel", "count", "(I)I"⟩
def qw_Z_count : List Cond := .code qy_Z_count qc_Z_count 3 (some .int) :: gTb
theorem qi_Z_count : Cond.code qy_Z_count qc_Z_count 3 (some .int) ∈ gTb := (gTb_3 (i := 204) (by rfl) rfl)
abbrev qc_Z_probe : ByteArray := prog_8_method_31_code
def qy_Z_probe : MethodName := ⟨"GossipNodesModel", "probe", "(I)V"⟩
def qw_Z_probe : List Cond := .code qy_Z_probe qc_Z_probe 2 none :: gTb
theorem qi_Z_probe : Cond.code qy_Z_probe qc_Z_probe 2 none ∈ gTb := (gTb_3 (i := 208) (by rfl) rfl)
abbrev qc_Z_begin : ByteArray := prog_8_method_28_code
def qy_Z_begin : MethodName := ⟨"GossipNodesModel", "begin", "(I)V"⟩
def qw_Z_begin : List Cond := .code qy_Z_begin qc_Z_begin 3 none :: gTb
theorem qi_Z_begin : Cond.code qy_Z_begin qc_Z_begin 3 none ∈ gTb := (gTb_3 (i := 212) (by rfl) rfl)
abbrev qc_Z_nextOf : ByteArray := prog_8_method_27_code
def qy_Z_nextOf : MethodName := ⟨"GossipNodesModel", "nextOf", "(IIIZ)I"⟩
def qw_Z_nextOf : List Cond := .code qy_Z_nextOf qc_Z_nextOf 8 (some .int) :: gTb
theorem qi_Z_nextOf : Cond.code qy_Z_nextOf qc_Z_nextOf 8 (some .int) ∈ gTb := (gTb_3 (i := 216) (by rfl) rfl)
abbrev qc_Z_askOthers : ByteArray := prog_8_method_29_code
def qy_Z_askOthers : MethodName := ⟨"GossipNodesModel", "askOthers", "(I)V"⟩
def qw_Z_askOthers : List Cond := .code qy_Z_askOthers qc_Z_askOthers 4 none :: gTb
theorem qi_Z_askOthers : Cond.code qy_Z_askOthers qc_Z_askOthers 4 none ∈ gTb := (gTb_3 (i := 220) (by rfl) rfl)
abbrev qc_Z_end : ByteArray := prog_8_method_30_code
def qy_Z_end : MethodName := ⟨"GossipNodesModel", "end", "(I)V"⟩
def qw_Z_end : List Cond := .code qy_Z_end qc_Z_end 5 none :: gTb
theorem qi_Z_end : Cond.code qy_Z_end qc_Z_end 5 none ∈ gTb := (gTb_3 (i := 224) (by rfl) rfl)
abbrev qc_Z_now : ByteArray := prog_8_method_34_code
def qy_Z_now : MethodName := ⟨"GossipNodesModel", "now", "()I"⟩
def qw_Z_now : List Cond := .code qy_Z_now qc_Z_now 1 (some .int) :: gTb
theorem qi_Z_now : Cond.code qy_Z_now qc_Z_now 1 (some .int) ∈ gTb := (gTb_3 (i := 228) (by rfl) rfl)
abbrev qc_Z_flight : ByteArray := prog_8_method_35_code
def qy_Z_flight : MethodName := ⟨"GossipNodesModel", "flight", "()I"⟩
def qw_Z_flight : List Cond := .code qy_Z_flight qc_Z_flight 1 (some .int) :: gTb
theorem qi_Z_flight : Cond.code qy_Z_flight qc_Z_flight 1 (some .int) ∈ gTb := (gTb_3 (i := 232) (by rfl) rfl)
abbrev qc_Z_message : ByteArray := prog_8_method_36_code
def qy_Z_message : MethodName := ⟨"GossipNodesModel", "message", "(II)I"⟩
def qw_Z_message : List Cond := .code qy_Z_message qc_Z_message 3 (some .int) :: gTb
theorem qi_Z_message : Cond.code qy_Z_message qc_Z_message 3 (some .int) ∈ gTb := (gTb_3 (i := 236) (by rfl) rfl)
abbrev qc_Z_view : ByteArray := prog_8_method_37_code
def qy_Z_view : MethodName := ⟨"GossipNodesModel", "view", "(III)I"⟩
def qw_Z_view : List Cond := .code qy_Z_view qc_Z_view 5 (some .int) :: gTb
theorem qi_Z_view : Cond.code qy_Z_view qc_Z_view 5 (some .int) ∈ gTb := (gTb_4 (i := 0) (by rfl) rfl)
abbrev qc_Z_node : ByteArray := prog_8_method_39_code
def qy_Z_node : MethodName := ⟨"GossipNodesModel", "node", "(II)I"⟩
def qw_Z_node : List Cond := .code qy_Z_node qc_Z_node 3 (some .int) :: gTb
theorem qi_Z_node : Cond.code qy_Z_node qc_Z_node 3 (some .int) ∈ gTb := (gTb_4 (i := 4) (by rfl) rfl)
abbrev qc_Z_newsOf : ByteArray := prog_8_method_38_code
def qy_Z_newsOf : MethodName := ⟨"GossipNodesModel", "newsOf", "(I)I"⟩
def qw_Z_newsOf : List Cond := .code qy_Z_newsOf qc_Z_newsOf 4 (some .int) :: gTb
theorem qi_Z_newsOf : Cond.code qy_Z_newsOf qc_Z_newsOf 4 (some .int) ∈ gTb := (gTb_4 (i := 8) (by rfl) rfl)
abbrev qc_Z_queued : ByteArray := prog_8_method_40_code
def qy_Z_queued : MethodName := ⟨"GossipNodesModel", "queued", "(II)I"⟩
def qw_Z_queued : List Cond := .code qy_Z_queued qc_Z_queued 3 (some .int) :: gTb
theorem qi_Z_queued : Cond.code qy_Z_queued qc_Z_queued 3 (some .int) ∈ gTb := (gTb_4 (i := 12) (by rfl) rfl)
abbrev qc_Z_agreed : ByteArray := prog_8_method_41_code
def qy_Z_agreed : MethodName := ⟨"GossipNodesModel", "agreed", "()Z"⟩
def qw_Z_agreed : List Cond := .code qy_Z_agreed qc_Z_agreed 5 (some .boolean) :: gTb
theorem qi_Z_agreed : Cond.code qy_Z_agreed qc_Z_agreed 5 (some .boolean) ∈ gTb := (gTb_4 (i := 16) (by rfl) rfl)
end
section
/-! the cells by name: (kind, i, j), in the order in which they are made -/
abbrev gK : Type := Nat × Nat × Nat
abbrev gV : Type := Int32 ⊕ Option gK
abbrev gS : Type := (gK → Nat → Int32) × (gK → Nat → Option gK)
/-- how many nodes, the first address, the array classes, the tables -/
abbrev gG : Type := Nat × Nat × (Nat → ClassId) × va_G
def gNodeKs (n i : Nat) : List gK := [(7, i, 0), (10, i, 0), (8, i, 0)] ++ (List.range n).map (fun j => (9, i, j)) ++ (List.range 4).map (fun r => (11, i, r))
def gOrd (n : Nat) : List gK := [(0, 0, 0), (3, 0, 0), (4, 0, 0), (4, 1, 0), (5, 120, 0), (6, 120, 0)] ++ (List.range 60).flatMap (fun i => [(5, i, 0), (6, i, 0), (5, 60 + i, 0), (6, 60 + i, 0)]) ++ [(2, 0, 0), (1, 0, 0)] ++ (List.range n).flatMap (gNodeKs n) ++ [(20, 0, 0)] ++ (List.range 25).map (fun k => (21 + k, 0, 0))
/-- what a cell is: an object of a class (its number in gCl), or an array (the number of its type, its length) -/
def gSh (n : Nat) (k : gK) : Nat ⊕ (Nat × Nat) := match k.1 with
  | 0 => .inl 5
  | 1 => .inr (2, n)
  | 2 => .inr (0, n)
  | 3 => .inl 1
  | 4 => .inr (3, 60)
  | 5 => .inl 2
  | 6 => .inr (0, 24)
  | 7 => .inl 3
  | 8 => .inr (4, n)
  | 9 => .inl 0
  | 10 => .inr (5, 4)
  | 11 => .inl 4
  | 20 => .inl 6
  | 21 => .inr (0, 1920)
  | 22 => .inr (0, 32)
  | 23 => .inr (1, 64)
  | 24 => .inr (1, 8)
  | 25 => .inr (0, 8)
  | 26 => .inr (0, 8)
  | 27 => .inr (0, 64)
  | 28 => .inr (0, 64)
  | 29 => .inr (0, 64)
  | 30 => .inr (0, 64)
  | 31 => .inr (0, 64)
  | 32 => .inr (0, 64)
  | 33 => .inr (0, 64)
  | 34 => .inr (0, 8)
  | 35 => .inr (0, 128)
  | 36 => .inr (1, 8)
  | 37 => .inr (0, 8)
  | 38 => .inr (0, 8)
  | 39 => .inr (1, 8)
  | _ => .inr (0, 8)
def gNt : Nat := 6
def gTy (t : Nat) : FieldType := match t with
  | 0 => .int
  | 1 => .boolean
  | 2 => .object "GossipNodes$Node"
  | 3 => .object "GossipNodes$Message"
  | 4 => .object "GossipNodes$Entry"
  | _ => .object "GossipNodes$Relay"
theorem gTy_0 : 0 < gNt ∧ 1 < gNt ∧ 2 < gNt := by decide
def gAd (G : gG) (k : gK) : Nat := G.2.1 + (gOrd G.1).idxOf k
end
section
/-! A small machine over named cells: the rows of the kit, once for all methods. -/
/-- a value of the small machine, as the machine has it -/
def gRv (G : gG) (r : Option gK) : Value := va_rf (r.map (gAd G))
def gc (G : gG) (v : gV) : Value := match v with
  | .inl x => .int x
  | .inr r => gRv G r
def gFs (G : gG) (S : gS) (k : gK) (ci : Nat) : List Value := (List.range (gNf ci)).map (fun f => if gRf ci f then gRv G (S.2 k f) else .int (S.1 k f))
def gAr (G : gG) (S : gS) (k : gK) (t : Nat) : (Nat → Int32) ⊕ (Nat → Int64) ⊕ (Nat → UInt32) ⊕ (Nat → UInt64) ⊕ (Nat → Option Nat) :=
  if t < 2 then .inl (S.1 k) else .inr (.inr (.inr (.inr (fun j => (S.2 k j).map (gAd G)))))
def gE (G : gG) (S : gS) (k : gK) : va_E := match gSh G.1 k with
  | .inl ci => .inr (ci, gFs G S k ci)
  | .inr q => .inl (G.2.2.1 q.1, q.2, gAr G S k q.1)
def gKs (G : gG) (t : Nat) : List gK := (gOrd G.1).take t
def gW (G : gG) (t : Nat) (S : gS) : va_W := (gKs G t).map (fun k => (gAd G k, gE G S k))
def gA (G : gG) : Nat → Prop := fun q => G.2.1 ≤ q
def gTys (G : gG) : List (ClassId × FieldType) := (List.range gNt).map (fun t => (G.2.2.1 t, gTy t))
def gP (G : gG) (t : Nat) (S : gS) (H : Heap) : Prop := va_P G.2.2.2 gCl (gW G t S) H ∧ H.size = G.2.1 + t
def gKn (G : gG) (U : State) : Prop := va_K G.2.2.2 gCl (gTys G) U ∧ (gOrd G.1).Nodup
/-- locals: what is known of them; 'none' is anything -/
def gL (G : gG) (ls : Array Slot) (lv : List (Option gV)) : Prop := ls.size = lv.length ∧ lv_wf ls ∧ ∀ (i : Nat) (v : gV), lv[i]? = some (some v) → ls[i]? = some (.val (gc G v))
/-- one field, one element -/
def gI (S : gS) (k : gK) (f : Nat) (v : Int32) : gS := (fun k' f' => if k' = k ∧ f' = f then v else S.1 k' f', S.2)
def gX (S : gS) (k : gK) (f : Nat) (r : Option gK) : gS := (S.1, fun k' f' => if k' = k ∧ f' = f then r else S.2 k' f')
abbrev gEnv : Type := Program × Launch × Env × Room × State × MethodId × Array Value × List Frame × Method × Code
def gC (G : gG) (E : gEnv) (cc : ByteArray) (nL : Nat) (own : String) (d : Nat) : Prop :=
  E.1.tables.exec = Jvm.exec ∧ E.2.2.2.2.2.2.2.2.2.code = cc ∧ E.2.2.2.2.2.2.2.2.2.maxLocals = nL ∧ E.2.2.2.2.1.vm.findClass own = some E.2.2.2.2.2.1.cls ∧
  (∀ w ∈ gTb, w.before E.2.2.2.2.2.2.1 E.2.2.2.2.1 = true) ∧ gKn G E.2.2.2.2.1 ∧ d ≤ E.2.2.2.1.frames ∧ 40 * d ≤ E.2.2.2.1.locals ∧ E.2.2.2.2.2.2.2.2.1.locks = false
def gZ (G : gG) (E : gEnv) (cells slots : Nat) (Q : State → Prop) (t pc : Nat) (lv : List (Option gV)) (st : List gV) (S : gS) : Prop :=
  ∀ (ls : Array Slot) (H : Heap) (locs : List Loc), gL G ls lv → gP G t S H → va_S (gA G) E.2.2.2.2.1.heap H locs →
    W E.1 E.2.1 E.2.2.1 E.2.2.2.1 E.2.2.2.2.1 E.2.2.2.2.2.1 E.2.2.2.2.2.2.1 E.2.2.2.2.2.2.2.1 E.2.2.2.2.2.2.2.2.1 E.2.2.2.2.2.2.2.2.2 H locs cells slots Q (F0 E.2.2.2.2.2.1 pc ls (st.map (gc G)))
/-- how a method ends -/
def gQ (G : gG) (t : Nat) (Rt : Option gV → gS → Prop) : Array Value → State → Outcome → State → Prop := fun _ st oc u =>
  (∃ (v : Option gV) (S : gS), oc = .returned (v.map (gc G)) ∧ Rt v S ∧ gP G t S u.heap) ∧ va_F (gA G) st u
abbrev gEnd (G : gG) (E : gEnv) (mc ms t : Nat) (Rt : Option gV → gS → Prop) : State → Prop := MQ E.2.2.2.2.2.2.2.1 (gQ G t Rt) E.2.2.2.2.2.2.1 E.2.2.2.2.1 mc ms (gA G)
def gPc (G : gG) (t : Nat) (av : List gV) (S : gS) : Array Value → State → Prop := fun a U => a = (av.map (gc G)).toArray ∧ gP G t S U.heap ∧ gKn G U
/-- a contract: from S, with these arguments, the method answers and leaves as Rt says -/
def gM (G : gG) (l : Launch) (y : MethodName) (ws : List Cond) (d mc ms t t' : Nat) (av : List gV) (S : gS) (Rt : Option gV → gS → Prop) : Prop :=
  Met l y ws { frames := d, cells := mc, slots := ms, locals := 40 * d } (gPc G t av S) (gQ G t' Rt) mc ms (gA G)
theorem gc_cat (G : gG) (v : gV) : (gc G v).category = 1 := by
  rcases v with x | r
  · rfl
  · cases r <;> rfl
theorem gRv_some (G : gG) (k : gK) : gRv G (some k) = .ref (gAd G k) := rfl
theorem gKn.moved {G : gG} {u U : State} (hvm : u.vm.Alike U.vm) (h : gKn G u) : gKn G U := ⟨va_K.moved hvm h.1, h.2⟩
/-! addresses -/
theorem gKs_mem {G : gG} {t : Nat} {k : gK} (h : k ∈ gKs G t) : k ∈ gOrd G.1 := List.mem_of_mem_take h
theorem gAd_inj {G : gG} {a b : gK} (ha : a ∈ gOrd G.1) (hb : b ∈ gOrd G.1) (h : gAd G a = gAd G b) : a = b := by
  have h1 : (gOrd G.1).idxOf a = (gOrd G.1).idxOf b := by unfold gAd at h; omega
  have ea : (gOrd G.1)[(gOrd G.1).idxOf a]'(List.idxOf_lt_length_of_mem ha) = a := List.getElem_idxOf _
  have eb : (gOrd G.1)[(gOrd G.1).idxOf b]'(List.idxOf_lt_length_of_mem hb) = b := List.getElem_idxOf _
  rw [← ea, ← eb]
  congr 1
theorem gW_get {G : gG} {t : Nat} {S : gS} {k : gK} (h : k ∈ gKs G t) : ∃ i : Nat, (gKs G t)[i]? = some k ∧ (gW G t S)[i]? = some (gAd G k, gE G S k) := by
  obtain ⟨i, hi⟩ := List.getElem?_of_mem h
  exact ⟨i, hi, by rw [gW, List.getElem?_map, hi]; rfl⟩
theorem gW_set {G : gG} {t i : Nat} {S S' : gS} {k : gK} (hn : (gOrd G.1).Nodup) (hi : (gKs G t)[i]? = some k) (ho : ∀ k', k' ≠ k → gE G S' k' = gE G S k') : (gW G t S).set i (gAd G k, gE G S' k) = gW G t S' := by
  have hnd : (gKs G t).Nodup := List.Nodup.sublist (List.take_sublist _ _) hn
  have hl := (List.getElem?_eq_some_iff.mp hi).1
  apply List.ext_getElem?
  intro j
  by_cases hj : j = i
  · subst hj
    rw [List.getElem?_set_self (by rw [gW, List.length_map]; exact hl), gW, List.getElem?_map, hi]; rfl
  · rw [List.getElem?_set_ne (Ne.symm hj)]
    simp only [gW, List.getElem?_map]
    cases hb : (gKs G t)[j]? with
    | none => rfl
    | some b =>
      have hbk : b ≠ k := by
        intro e
        subst e
        exact hj ((List.getElem?_inj (List.getElem?_eq_some_iff.mp hb).1 hnd).mp (hb.trans hi.symm))
      simp only [Option.map_some]
      rw [ho b hbk]
theorem gD {G : gG} {t : Nat} {S : gS} (hn : (gOrd G.1).Nodup) : va_D (gA G) (gW G t S) := by
  have hnd : (gKs G t).Nodup := List.Nodup.sublist (List.take_sublist _ _) hn
  refine ⟨fun i j x y hi hj hxy => ?_, fun k q hk => ?_⟩
  · simp only [gW, List.getElem?_map] at hi hj
    cases ha : (gKs G t)[i]? with
    | none => rw [ha] at hi; cases hi
    | some a =>
      cases hb : (gKs G t)[j]? with
      | none => rw [hb] at hj; cases hj
      | some b =>
        rw [ha] at hi; rw [hb] at hj
        cases hi; cases hj
        have e := gAd_inj (gKs_mem (List.mem_of_getElem? ha)) (gKs_mem (List.mem_of_getElem? hb)) hxy
        subst e
        exact (List.getElem?_inj (List.getElem?_eq_some_iff.mp ha).1 hnd).mp (ha.trans hb.symm)
  · simp only [gW, List.getElem?_map] at hk
    cases ha : (gKs G t)[k]? with
    | none => rw [ha] at hk; cases hk
    | some a =>
      rw [ha] at hk
      cases hk
      show G.2.1 ≤ gAd G a
      unfold gAd
      omega
theorem gTys_at {G : gG} {t : Nat} (h : t < gNt) : (gTys G)[t]? = some (G.2.2.1 t, gTy t) := by
  rw [gTys, List.getElem?_map, List.getElem?_range h]; rfl
theorem gFs_at {G : gG} {S : gS} {k : gK} {ci f : Nat} (h : f < gNf ci) : (gFs G S k ci)[f]? = some (if gRf ci f then gRv G (S.2 k f) else .int (S.1 k f)) := by
  rw [gFs, List.getElem?_map, List.getElem?_range h]; rfl
theorem gFs_len {G : gG} {S : gS} {k : gK} {ci : Nat} : (gFs G S k ci).length = gNf ci := by simp [gFs]
theorem gE_obj {G : gG} {S : gS} {k : gK} {ci : Nat} (h : gSh G.1 k = .inl ci) : gE G S k = .inr (ci, gFs G S k ci) := by unfold gE; rw [h]
theorem gE_arr {G : gG} {S : gS} {k : gK} {t n : Nat} (h : gSh G.1 k = .inr (t, n)) : gE G S k = .inl (G.2.2.1 t, n, gAr G S k t) := by unfold gE; rw [h]
theorem gE_I {G : gG} {S : gS} {k k' : gK} {f : Nat} {v : Int32} (h : k' ≠ k) : gE G (gI S k f v) k' = gE G S k' := by
  have e1 : ∀ j, (gI S k f v).1 k' j = S.1 k' j := fun j => by simp [gI, h]
  have e2 : (gI S k f v).1 k' = S.1 k' := funext e1
  unfold gE gFs gAr
  simp only [e2]
  rfl
theorem gE_X {G : gG} {S : gS} {k k' : gK} {f : Nat} {r : Option gK} (h : k' ≠ k) : gE G (gX S k f r) k' = gE G S k' := by
  have e1 : ∀ j, (gX S k f r).2 k' j = S.2 k' j := fun j => by simp [gX, h]
  have e2 : (gX S k f r).2 k' = S.2 k' := funext e1
  unfold gE gFs gAr
  simp only [e2]
  rfl
/-! locals -/
def gPr (G : gG) (lv : List (Option gV)) : List (Nat × Value) := (List.range lv.length).filterMap (fun i => match lv[i]? with
  | some (some v) => some (i, gc G v)
  | _ => none)
theorem gPr_mem {G : gG} {lv : List (Option gV)} {i : Nat} {v : gV} (h : lv[i]? = some (some v)) : (i, gc G v) ∈ gPr G lv := by
  unfold gPr
  refine List.mem_filterMap.mpr ⟨i, List.mem_range.mpr (List.getElem?_eq_some_iff.mp h).1, ?_⟩
  rw [h]
theorem gL.has {G : gG} {ls : Array Slot} {lv : List (Option gV)} (h : gL G ls lv) : lv_has ls lv.length (gPr G lv) := by
  refine ⟨h.1, h.2.1, fun q hq => ?_⟩
  obtain ⟨i, -, hi⟩ := List.mem_filterMap.mp hq
  split at hi
  next v hv => cases hi; exact h.2.2 i v hv
  next => cases hi
theorem gL.store {G : gG} {ls' : Array Slot} {lv : List (Option gV)} {i : Nat} {v : gV} (h : lv_has ls' lv.length ((i, gc G v) :: (gPr G lv).filter (fun q => !(q.1 == i) && !(q.1 + 1 == i && q.2.category == 2)))) : gL G ls' (lv.set i (some v)) := by
  refine ⟨by rw [List.length_set]; exact h.1, h.2.1, fun j w hj => ?_⟩
  by_cases hji : j = i
  · subst hji
    have hl : j < lv.length := by
      have := (List.getElem?_eq_some_iff.mp hj).1
      rw [List.length_set] at this
      exact this
    rw [List.getElem?_set_self hl] at hj
    cases hj
    exact h.2.2 (j, gc G v) List.mem_cons_self
  · rw [List.getElem?_set_ne (Ne.symm hji)] at hj
    refine h.2.2 (j, gc G w) (List.mem_cons_of_mem _ (List.mem_filter.mpr ⟨gPr_mem hj, ?_⟩))
    simp [hji, gc_cat]
theorem gL.weak {G : gG} {ls : Array Slot} {lv lv' : List (Option gV)} (h : gL G ls lv) (hl : lv'.length = lv.length) (hw : ∀ (i : Nat) (v : gV), lv'[i]? = some (some v) → lv[i]? = some (some v)) : gL G ls lv' := ⟨by rw [hl]; exact h.1, h.2.1, fun i v hv => h.2.2 i v (hw i v hv)⟩
/-- lv' knows no more than lv -/
def gLe : List (Option gV) → List (Option gV) → Prop
  | [], [] => True
  | none :: a, _ :: b => gLe a b
  | some v :: a, w :: b => w = some v ∧ gLe a b
  | _, _ => False
theorem gLe.spec : ∀ {a b : List (Option gV)}, gLe a b → a.length = b.length ∧ ∀ (i : Nat) (v : gV), a[i]? = some (some v) → b[i]? = some (some v)
  | [], [], _ => ⟨rfl, fun i v h => by simp at h⟩
  | [], _ :: _, h => by simp [gLe] at h
  | _ :: _, [], h => by rename_i x y; cases x <;> simp [gLe] at h
  | none :: a, w :: b, h => by
    obtain ⟨h1, h2⟩ := gLe.spec (a := a) (b := b) (by simpa [gLe] using h)
    refine ⟨by simp [h1], fun i v hv => ?_⟩
    cases i with
    | zero => simp at hv
    | succ i => simpa using h2 i v (by simpa using hv)
  | some x :: a, w :: b, h => by
    have h' : w = some x ∧ gLe a b := by simpa [gLe] using h
    obtain ⟨h1, h2⟩ := gLe.spec (a := a) (b := b) h'.2
    refine ⟨by simp [h1], fun i v hv => ?_⟩
    cases i with
    | zero => rw [h'.1]; simpa using hv
    | succ i => simpa using h2 i v (by simpa using hv)
/-! what an instruction that names a field rests on -/
def gLk (own : String) (index ci f : Nat) : Prop := ∃ (C : String) (T : u_T) (N : Nat), gCl[ci]? = some (C, T, N) ∧ gNf ci = N ∧ f < N ∧ (∀ w ∈ u_ws C T N, w ∈ gTb) ∧ Cond.fieldLink own index (T f).1 (T f).2.1 (T f).2.2.1 ∈ gTb
/-- and of what type it is, and that names differ; final or not -/
def gLp (own : String) (index ci f : Nat) (ty : FieldType) (fin : Bool) : Prop := ∃ (C : String) (T : u_T) (N : Nat) (ty0 : Nat → FieldType), gCl[ci]? = some (C, T, N) ∧ gNf ci = N ∧ f < N ∧ (∀ w ∈ u_ws C T N, w ∈ gTb) ∧ Cond.fieldLink own index (T f).1 (T f).2.1 (T f).2.2.1 ∈ gTb ∧
  (∀ k, k < N → parseFieldDescriptor (T k).2.2.1 = some (ty0 k)) ∧ (∀ a, a < N → ∀ b, b < N → a ≠ b → (T a).2.1 ≠ (T b).2.1) ∧ ty0 f = ty ∧ (T f).2.2.2 = fin ∧ (fin = true → (T f).1 = own)
section GP
variable {p : Program} {l : Launch} {e : Env} {R : Room} {s : State} {m : MethodId} {args : Array Value} {below : List Frame} {meth : Method} {c : Code} {H : Heap} {locs : List Loc} {cells slots : Nat} {Q : State → Prop}
variable {cc : ByteArray} {pc : Nat} {ls : Array Slot} {rest : List Value} {D : va_G} {A : Nat → Prop} {a : Nat} {tys : List (ClassId × FieldType)} {ws : va_W} {H0 : Heap}
/-- a store into a field, with the heap's size -/
theorem g_put (hexec : p.tables.exec = Jvm.exec) (hb : c.code = cc) {own : String} {index ci f : Nat} {fin : Bool} {ty : FieldType} (hlp : gLp own index ci f ty fin) (hfin : fin = true → meth.name = "<init>") (hts : ∀ w ∈ gTb, w.before args s = true) (hown : s.vm.findClass own = some m.cls) (hK : va_K D gCl tys s) (hP : va_P D gCl ws H) (hD : va_D A ws) (hS0 : va_S A H0 H locs) (q0 : Nat) {fs : List Value} (he : ws[q0]? = some (a, .inr (ci, fs)))
    {v : Value} (hn : narrow ty v = v) (hfit : fits ty v = true) (hl : fs.length = gNf ci) (hdg : decode cc pc = .ok (.putfield index, 3))
    (kk : ∀ (H1 : Heap) (locs1 : List Loc), va_P D gCl (ws.set q0 (a, .inr (ci, fs.set f v))) H1 → H1.size = H.size → va_S A H0 H1 locs1 → W p l e R s m args below meth c H1 locs1 cells slots Q (F0 m (pc + 3) ls rest)) : W p l e R s m args below meth c H locs cells slots Q (F0 m pc ls (v :: .ref a :: rest)) := by
  obtain ⟨C, T, N, ty0, hc, hN, hf, hu, hw, hty, hnm, hty1, hfi, hdecl⟩ := hlp
  have hd : parseFieldDescriptor (T f).2.2.1 = some ty := by rw [hty f hf, hty1]
  have hap := va_apart (own := own) hts hu ty0 hty hnm hK hc
  obtain ⟨r, h1, cell, q1, q2, q3, q4⟩ := hP q0 _ he
  have hr : r = (C, T, N) := Option.some.inj (h1.symm.trans hc)
  subst hr
  obtain ⟨hS, hfc, kC, hkC, hkind⟩ := hK.1 ci _ hc
  obtain ⟨cf, kf, fi, fd, hi, hsl⟩ := hS f hf
  have hst := (u_facts hfc hkC (u_lays hts hu hf) hi).1
  have hgo : ∀ H' : Heap, H'[a]? = some (cell.setSlot fd.slot v) → H'.size = H.size → (∀ q, q ≠ a → H'[q]? = H[q]?) → W p l e R s m args below meth c H' (locs ++ [⟨a, fd.slot⟩]) cells slots Q (F0 m (pc + 3) ls rest) := by
    intro H' e1 e2 e3
    rw [hsl] at e1 ⊢
    exact kk H' _ (hP.set hD he ⟨_, hc, t_OB.to (V := updV (vp_V fs) f v) ⟨_, e1, q2, q3, t_set q4 hap hf v⟩ (fun j _ => vp_updV_set (by rw [hl, hN]; exact hf) v j)⟩ e3) e2 (hS0.put e2 e3 (hD.2 q0 _ he))
  have hlt : fd.slot < cell.slots.size := by rw [hsl]; exact k2_hasslot (q4 f hf)
  have hlay := hts _ (hu _ (u_in_lay hf))
  unfold u_lay at hlay
  cases fin with
  | false =>
    rw [if_neg (by rw [hfi]; decide)] at hlay
    have h6 := u_store hfc hkC hkind hlay hi hd hn hfit
    exact W.putK hexec hb (f := fd) ⟨hown, hts _ hw, ⟨_, _, _, hi⟩, hst⟩ (by rw [q2]; exact h6) q1 q3 hlt rfl rfl hdg hgo
  | true =>
    rw [if_pos hfi] at hlay
    have hcf : m.cls = cf := by
      obtain ⟨_, _, c', _, _, _, -, -, hf', -, -, -, hown2, -⟩ := Cond.laysFinal_spec hlay
      have e1 : c' = cf := by have := hi.symm.trans hf'; simp at this; exact this.1.symm
      rw [hdecl rfl] at hown2
      rw [← e1]; exact Option.some.inj (hown.symm.trans hown2)
    have h6 := u_fits hfc hkC hkind (Or.inr hlay) hi hd hn hfit
    exact W.putFinK hexec hb hown (hts _ hw) hi hst hcf (hfin rfl) (by rw [q2]; exact h6) q1 q3 hlt rfl rfl hdg hgo
/-- stores into arrays, with the heap's size -/
theorem g_iast (hexec : p.tables.exec = Jvm.exec) (hb : c.code = cc) (hK : va_K D gCl tys s) (hP : va_P D gCl ws H) (hD : va_D A ws) (hS : va_S A H0 H locs) (q0 t0 : Nat) {cA : ClassId} {n : Nat} {f : Nat → Int32} (ha : ws[q0]? = some (a, .inl (cA, n, .inl f))) (ht : tys[t0]? = some (cA, .int)) {i : Int32} {x : Int32} (hin : vp_in i n) (hdg : decode cc pc = .ok (.iastore, 1))
    (kk : ∀ (H1 : Heap) (locs1 : List Loc), va_P D gCl (ws.set q0 (a, .inl (cA, n, .inl (upd f i.toNatClampNeg x)))) H1 → H1.size = H.size → va_S A H0 H1 locs1 → W p l e R s m args below meth c H1 locs1 cells slots Q (F0 m (pc + 1) ls rest)) : W p l e R s m args below meth c H locs cells slots Q (F0 m pc ls (.int x :: .int i :: .ref a :: rest)) := by
  refine W.iast hexec hb (hP q0 _ ha) ((hK.2 t0 _ ht).1 n (fun j => .int (f j))) (fun q => by cases q) (by show ¬ (i < 0 ∨ (arrV _ _ _).slots.size ≤ _); rw [arrV_size]; exact hin) rfl rfl hdg fun H1 e z oq => ?_
  refine kk H1 _ (hP.set hD ha ?_ oq) z (hS.put z oq (hD.2 q0 _ ha))
  show H1[a]? = some (vp_cell _ _)
  rw [e, vp_cell_i, vp_cell_i, arrV_store]
  congr 2
  funext q
  by_cases hq : q = i.toNatClampNeg
  · subst hq
    simp [updV, upd]
  · simp [updV, upd, hq]
theorem g_zast (hexec : p.tables.exec = Jvm.exec) (hb : c.code = cc) (hK : va_K D gCl tys s) (hP : va_P D gCl ws H) (hD : va_D A ws) (hS : va_S A H0 H locs) (q0 t0 : Nat) {cA : ClassId} {n : Nat} {f : Nat → Int32} (ha : ws[q0]? = some (a, .inl (cA, n, .inl f))) (ht : tys[t0]? = some (cA, .boolean)) {i : Int32} {x : Int32} (hx : narrow .boolean (.int x) = .int x) (hin : vp_in i n) (hdg : decode cc pc = .ok (.bastore, 1))
    (kk : ∀ (H1 : Heap) (locs1 : List Loc), va_P D gCl (ws.set q0 (a, .inl (cA, n, .inl (upd f i.toNatClampNeg x)))) H1 → H1.size = H.size → va_S A H0 H1 locs1 → W p l e R s m args below meth c H1 locs1 cells slots Q (F0 m (pc + 1) ls rest)) : W p l e R s m args below meth c H locs cells slots Q (F0 m pc ls (.int x :: .int i :: .ref a :: rest)) := by
  refine W.zast hexec hb (hP q0 _ ha) ((hK.2 t0 _ ht).1 n (fun j => .int (f j))) (fun q => by cases q) (by show ¬ (i < 0 ∨ (arrV _ _ _).slots.size ≤ _); rw [arrV_size]; exact hin) rfl rfl hdg fun H1 e z oq => ?_
  refine kk H1 _ (hP.set hD ha ?_ oq) z (hS.put z oq (hD.2 q0 _ ha))
  show H1[a]? = some (vp_cell _ _)
  rw [e, hx, vp_cell_i, vp_cell_i, arrV_store]
  congr 2
  funext q
  by_cases hq : q = i.toNatClampNeg
  · subst hq
    simp [updV, upd]
  · simp [updV, upd, hq]
theorem g_aast (hexec : p.tables.exec = Jvm.exec) (hb : c.code = cc) (hK : va_K D gCl tys s) (hP : va_P D gCl ws H) (hD : va_D A ws) (hS : va_S A H0 H locs) (q0 t0 qk ci : Nat) {cA : ClassId} {r : vw_C} {n v : Nat} {vs : List Value} {f : Nat → Option Nat} (ha : ws[q0]? = some (a, .inl (cA, n, .inr (.inr (.inr (.inr f)))))) (ht : tys[t0]? = some (cA, .object r.1)) (hv : ws[qk]? = some (v, .inr (ci, vs))) (hc : gCl[ci]? = some r) {i : Int32} (hin : vp_in i n) (hdg : decode cc pc = .ok (.aastore, 1))
    (kk : ∀ (H1 : Heap) (locs1 : List Loc), va_P D gCl (ws.set q0 (a, .inl (cA, n, .inr (.inr (.inr (.inr (va_up f i.toNatClampNeg (some v)))))))) H1 → H1.size = H.size → va_S A H0 H1 locs1 → W p l e R s m args below meth c H1 locs1 cells slots Q (F0 m (pc + 1) ls rest)) : W p l e R s m args below meth c H locs cells slots Q (F0 m pc ls (.ref v :: .int i :: .ref a :: rest)) := by
  have hlt : i.toNatClampNeg < n := Nat.not_le.mp fun q => hin (Or.inr q)
  have h0 : ¬ i < 0 := fun q => hin (Or.inl q)
  obtain ⟨r', hr', cellV, g1, g2, g3, -⟩ := hP qk _ hv
  have hcls := (hK.1 ci r hc).2
  obtain ⟨kA, comp, k1, k2, k3, -⟩ := (hK.2 t0 _ ht).2
  have hcomp : comp = D.1 ci := Option.some.inj (k3.symm.trans hcls.1)
  subst hcomp
  obtain ⟨kC, hkC, -⟩ := hcls.2
  refine W.aast hexec hb (hP q0 _ ha) (fun q h => by cases h) (fun h => by cases h) k1 k2 rfl hkC ⟨h0, by show _ < (arrV _ _ _).slots.size; rw [arrV_size]; exact hlt⟩ g1 (fun q h => by rw [g3] at h; cases h) (by rw [g2]; exact hkC) (by rw [g2]; exact va_assign hcls) rfl rfl hdg fun H1 e z oq => ?_
  refine kk H1 _ (hP.set hD ha ?_ oq) z (hS.put z oq (hD.2 q0 _ ha))
  show H1[a]? = some (vp_cell _ _)
  rw [e, vp_cell_q, vp_cell_q, arrV_store]
  congr 2
  funext q
  by_cases hq : q = i.toNatClampNeg
  · subst hq
    simp [updV, va_up, va_rf]
  · simp [updV, va_up, hq]
end GP
section GZ
variable {G : gG} {E : gEnv} {cells slots : Nat} {Q : State → Prop} {t pc : Nat} {lv : List (Option gV)} {st : List gV} {S : gS} {cc : ByteArray} {nL : Nat} {own : String} {d : Nat}
theorem gz_iconst (cx : gC G E cc nL own d) {n : Int} {v : Int32} (hd : decode cc pc = .ok (.iconst n, 1)) (hv : Int32.ofInt n = v) (k : gZ G E cells slots Q t (pc + 1) lv (.inl v :: st) S) : gZ G E cells slots Q t pc lv (st) S :=
  fun ls H locs hl hP hS => lv_iconst cx.1 cx.2.1 hd hv (k ls H locs hl hP hS)
theorem gz_bipush (cx : gC G E cc nL own d) {n : Int} {v : Int32} (hd : decode cc pc = .ok (.bipush n, 2)) (hv : (Int8.ofInt n).toInt32 = v) (k : gZ G E cells slots Q t (pc + 2) lv (.inl v :: st) S) : gZ G E cells slots Q t pc lv (st) S :=
  fun ls H locs hl hP hS => lv_bipush cx.1 cx.2.1 hd hv (k ls H locs hl hP hS)
theorem gz_sipush (cx : gC G E cc nL own d) {n : Int} {v : Int32} (hd : decode cc pc = .ok (.sipush n, 3)) (hv : (Int16.ofInt n).toInt32 = v) (k : gZ G E cells slots Q t (pc + 3) lv (.inl v :: st) S) : gZ G E cells slots Q t pc lv (st) S :=
  fun ls H locs hl hP hS => lv_sipush cx.1 cx.2.1 hd hv (k ls H locs hl hP hS)
theorem gz_iload_n (cx : gC G E cc nL own d) {k : Fin 4} {i : Nat} {x : Int32} (hd : decode cc pc = .ok (.iload_n k, 1)) (hi : (k : Nat) = i) (hx : lv[i]? = some (some (.inl x))) (k : gZ G E cells slots Q t (pc + 1) lv (.inl x :: st) S) : gZ G E cells slots Q t pc lv (st) S :=
  fun ls H locs hl hP hS => lv_iload_n cx.1 cx.2.1 hd hi (hl.2.2 _ _ hx) (k ls H locs hl hP hS)
theorem gz_iload (cx : gC G E cc nL own d) {i : Nat} {x : Int32} (hd : decode cc pc = .ok (.iload i, 2)) (hx : lv[i]? = some (some (.inl x))) (k : gZ G E cells slots Q t (pc + 2) lv (.inl x :: st) S) : gZ G E cells slots Q t pc lv (st) S :=
  fun ls H locs hl hP hS => lv_iload cx.1 cx.2.1 hd (hl.2.2 _ _ hx) (k ls H locs hl hP hS)
theorem gz_istore_n (cx : gC G E cc nL own d) {k : Fin 4} {i : Nat} {x : Int32} (hd : decode cc pc = .ok (.istore_n k, 1)) (hi : (k : Nat) = i) (hn : i < lv.length) (k : gZ G E cells slots Q t (pc + 1) (lv.set i (some (.inl x))) (st) S) : gZ G E cells slots Q t pc lv (.inl x :: st) S :=
  fun ls H locs hl hP hS => lv_istore_n cx.1 cx.2.1 hd hi hl.has hn rfl (fun ls' h' => k ls' H locs (gL.store (v := .inl x) h') hP hS)
theorem gz_istore (cx : gC G E cc nL own d) {i : Nat} {x : Int32} (hd : decode cc pc = .ok (.istore i, 2)) (hn : i < lv.length) (k : gZ G E cells slots Q t (pc + 2) (lv.set i (some (.inl x))) (st) S) : gZ G E cells slots Q t pc lv (.inl x :: st) S :=
  fun ls H locs hl hP hS => lv_istore cx.1 cx.2.1 hd hl.has hn rfl (fun ls' h' => k ls' H locs (gL.store (v := .inl x) h') hP hS)
theorem gz_aload_n (cx : gC G E cc nL own d) {k : Fin 4} {i : Nat} {x : gK} (hd : decode cc pc = .ok (.aload_n k, 1)) (hi : (k : Nat) = i) (hx : lv[i]? = some (some (.inr (some x)))) (k : gZ G E cells slots Q t (pc + 1) lv (.inr (some x) :: st) S) : gZ G E cells slots Q t pc lv (st) S :=
  fun ls H locs hl hP hS => lv_aload_n cx.1 cx.2.1 hd hi (hl.2.2 _ _ hx) (k ls H locs hl hP hS)
theorem gz_aload (cx : gC G E cc nL own d) {i : Nat} {x : gK} (hd : decode cc pc = .ok (.aload i, 2)) (hx : lv[i]? = some (some (.inr (some x)))) (k : gZ G E cells slots Q t (pc + 2) lv (.inr (some x) :: st) S) : gZ G E cells slots Q t pc lv (st) S :=
  fun ls H locs hl hP hS => lv_aload cx.1 cx.2.1 hd (hl.2.2 _ _ hx) (k ls H locs hl hP hS)
theorem gz_astore_n (cx : gC G E cc nL own d) {k : Fin 4} {i : Nat} {x : gK} (hd : decode cc pc = .ok (.astore_n k, 1)) (hi : (k : Nat) = i) (hn : i < lv.length) (k : gZ G E cells slots Q t (pc + 1) (lv.set i (some (.inr (some x)))) (st) S) : gZ G E cells slots Q t pc lv (.inr (some x) :: st) S :=
  fun ls H locs hl hP hS => lv_astore_n cx.1 cx.2.1 hd hi hl.has hn rfl (fun ls' h' => k ls' H locs (gL.store (v := .inr (some x)) h') hP hS)
theorem gz_astore (cx : gC G E cc nL own d) {i : Nat} {x : gK} (hd : decode cc pc = .ok (.astore i, 2)) (hn : i < lv.length) (k : gZ G E cells slots Q t (pc + 2) (lv.set i (some (.inr (some x)))) (st) S) : gZ G E cells slots Q t pc lv (.inr (some x) :: st) S :=
  fun ls H locs hl hP hS => lv_astore cx.1 cx.2.1 hd hl.has hn rfl (fun ls' h' => k ls' H locs (gL.store (v := .inr (some x)) h') hP hS)
theorem gz_iinc (cx : gC G E cc nL own d) {i : Nat} {n : Int} {x v : Int32} (hd : decode cc pc = .ok (.iinc i n, 3)) (hx : lv[i]? = some (some (.inl x))) (hv : x + Int32.ofInt n = v) (k : gZ G E cells slots Q t (pc + 3) (lv.set i (some (.inl v))) st S) : gZ G E cells slots Q t pc lv st S := by
  intro ls H locs hl hP hS
  obtain ⟨j, hj⟩ := List.getElem?_of_mem (gPr_mem (G := G) hx)
  exact lv_iinc cx.1 cx.2.1 hd hl.has hj hv (List.getElem?_eq_some_iff.mp hx).1 rfl (fun ls' h' => k ls' H locs (gL.store (v := .inl v) h') hP hS)
theorem gz_iadd (cx : gC G E cc nL own d) {x y : Int32} (hd : decode cc pc = .ok (.iadd, 1)) (k : gZ G E cells slots Q t (pc + 1) lv (.inl (x + y) :: st) S) : gZ G E cells slots Q t pc lv (.inl y :: .inl x :: st) S :=
  fun ls H locs hl hP hS => lv_iadd cx.1 cx.2.1 hd (k ls H locs hl hP hS)
theorem gz_isub (cx : gC G E cc nL own d) {x y : Int32} (hd : decode cc pc = .ok (.isub, 1)) (k : gZ G E cells slots Q t (pc + 1) lv (.inl (x - y) :: st) S) : gZ G E cells slots Q t pc lv (.inl y :: .inl x :: st) S :=
  fun ls H locs hl hP hS => lv_isub cx.1 cx.2.1 hd (k ls H locs hl hP hS)
theorem gz_imul (cx : gC G E cc nL own d) {x y : Int32} (hd : decode cc pc = .ok (.imul, 1)) (k : gZ G E cells slots Q t (pc + 1) lv (.inl (x * y) :: st) S) : gZ G E cells slots Q t pc lv (.inl y :: .inl x :: st) S :=
  fun ls H locs hl hP hS => lv_imul cx.1 cx.2.1 hd (k ls H locs hl hP hS)
theorem gz_iand (cx : gC G E cc nL own d) {x y : Int32} (hd : decode cc pc = .ok (.iand, 1)) (k : gZ G E cells slots Q t (pc + 1) lv (.inl (x &&& y) :: st) S) : gZ G E cells slots Q t pc lv (.inl y :: .inl x :: st) S :=
  fun ls H locs hl hP hS => lv_iand cx.1 cx.2.1 hd (k ls H locs hl hP hS)
theorem gz_ior (cx : gC G E cc nL own d) {x y : Int32} (hd : decode cc pc = .ok (.ior, 1)) (k : gZ G E cells slots Q t (pc + 1) lv (.inl (x ||| y) :: st) S) : gZ G E cells slots Q t pc lv (.inl y :: .inl x :: st) S :=
  fun ls H locs hl hP hS => lv_ior cx.1 cx.2.1 hd (k ls H locs hl hP hS)
theorem gz_ixor (cx : gC G E cc nL own d) {x y : Int32} (hd : decode cc pc = .ok (.ixor, 1)) (k : gZ G E cells slots Q t (pc + 1) lv (.inl (x ^^^ y) :: st) S) : gZ G E cells slots Q t pc lv (.inl y :: .inl x :: st) S :=
  fun ls H locs hl hP hS => lv_ixor cx.1 cx.2.1 hd (k ls H locs hl hP hS)
theorem gz_ishl (cx : gC G E cc nL own d) {x y : Int32} (hd : decode cc pc = .ok (.ishl, 1)) (k : gZ G E cells slots Q t (pc + 1) lv (.inl (x <<< (y &&& 31)) :: st) S) : gZ G E cells slots Q t pc lv (.inl y :: .inl x :: st) S :=
  fun ls H locs hl hP hS => lv_ishl cx.1 cx.2.1 hd (k ls H locs hl hP hS)
theorem gz_ishr (cx : gC G E cc nL own d) {x y : Int32} (hd : decode cc pc = .ok (.ishr, 1)) (k : gZ G E cells slots Q t (pc + 1) lv (.inl (x >>> (y &&& 31)) :: st) S) : gZ G E cells slots Q t pc lv (.inl y :: .inl x :: st) S :=
  fun ls H locs hl hP hS => lv_ishr cx.1 cx.2.1 hd (k ls H locs hl hP hS)
theorem gz_irem (cx : gC G E cc nL own d) {x y : Int32} (hd : decode cc pc = .ok (.irem, 1)) (hne : ¬ y = 0) (k : gZ G E cells slots Q t (pc + 1) lv (.inl (x - x / y * y) :: st) S) : gZ G E cells slots Q t pc lv (.inl y :: .inl x :: st) S :=
  fun ls H locs hl hP hS => lv_irem cx.1 cx.2.1 hd hne (k ls H locs hl hP hS)
theorem gz_idiv (cx : gC G E cc nL own d) {x y : Int32} (hd : decode cc pc = .ok (.idiv, 1)) (hne : ¬ y = 0) (k : gZ G E cells slots Q t (pc + 1) lv (.inl (x / y) :: st) S) : gZ G E cells slots Q t pc lv (.inl y :: .inl x :: st) S :=
  fun ls H locs hl hP hS => lv_idiv cx.1 cx.2.1 hd hne (k ls H locs hl hP hS)
theorem gz_ineg (cx : gC G E cc nL own d) {x : Int32} (hd : decode cc pc = .ok (.ineg, 1)) (k : gZ G E cells slots Q t (pc + 1) lv (.inl (-x) :: st) S) : gZ G E cells slots Q t pc lv (.inl x :: st) S :=
  fun ls H locs hl hP hS => lv_ineg cx.1 cx.2.1 hd (k ls H locs hl hP hS)
theorem gz_iushr (cx : gC G E cc nL own d) {x y v : Int32} (hd : decode cc pc = .ok (.iushr, 1)) (hv : (x.toUInt32 >>> (y.toUInt32 &&& Int32.toUInt32 31)).toInt32 = v) (k : gZ G E cells slots Q t (pc + 1) lv (.inl v :: st) S) : gZ G E cells slots Q t pc lv (.inl y :: .inl x :: st) S :=
  fun ls H locs hl hP hS => lv_iushr cx.1 cx.2.1 hd hv (k ls H locs hl hP hS)
theorem gz_dup (cx : gC G E cc nL own d) {x : gV} (hd : decode cc pc = .ok (.dup, 1)) (k : gZ G E cells slots Q t (pc + 1) lv (x :: x :: st) S) : gZ G E cells slots Q t pc lv (x :: st) S :=
  fun ls H locs hl hP hS => lv_dup cx.1 cx.2.1 hd (gc_cat G x) (k ls H locs hl hP hS)
theorem gz_pop (cx : gC G E cc nL own d) {x : gV} (hd : decode cc pc = .ok (.pop, 1)) (k : gZ G E cells slots Q t (pc + 1) lv (st) S) : gZ G E cells slots Q t pc lv (x :: st) S :=
  fun ls H locs hl hP hS => lv_pop cx.1 cx.2.1 hd (gc_cat G x) (k ls H locs hl hP hS)
theorem gz_dup_x1 (cx : gC G E cc nL own d) {x y : gV} (hd : decode cc pc = .ok (.dup_x1, 1)) (k : gZ G E cells slots Q t (pc + 1) lv (x :: y :: x :: st) S) : gZ G E cells slots Q t pc lv (x :: y :: st) S :=
  fun ls H locs hl hP hS => lv_dup_x1 cx.1 cx.2.1 hd (gc_cat G x) (gc_cat G y) (k ls H locs hl hP hS)
theorem gz_dup_x2 (cx : gC G E cc nL own d) {x y z : gV} (hd : decode cc pc = .ok (.dup_x2, 1)) (k : gZ G E cells slots Q t (pc + 1) lv (x :: y :: z :: x :: st) S) : gZ G E cells slots Q t pc lv (x :: y :: z :: st) S :=
  fun ls H locs hl hP hS => lv_dup_x2 cx.1 cx.2.1 hd (gc_cat G x) (gc_cat G y) (gc_cat G z) (k ls H locs hl hP hS)
theorem gz_dup2 (cx : gC G E cc nL own d) {x y : gV} (hd : decode cc pc = .ok (.dup2, 1)) (k : gZ G E cells slots Q t (pc + 1) lv (x :: y :: x :: y :: st) S) : gZ G E cells slots Q t pc lv (x :: y :: st) S :=
  fun ls H locs hl hP hS => lv_dup2_11 cx.1 cx.2.1 hd (gc_cat G x) (gc_cat G y) (k ls H locs hl hP hS)
theorem gz_icmp_eq (cx : gC G E cc nL own d) {x y : Int32} {off : Int} {tgt : Nat} (hd : decode cc pc = .ok (.if_icmp .eq off, 3)) (ht : (pc : Int) + off = (tgt : Int)) (kt : x = y → gZ G E cells slots Q t tgt lv st S) (kf : ¬ (x = y) → gZ G E cells slots Q t (pc + 3) lv st S) : gZ G E cells slots Q t pc lv (.inl y :: .inl x :: st) S :=
  fun ls H locs hl hP hS => lv_icmp_eq cx.1 cx.2.1 hd ht (fun q => kt q ls H locs hl hP hS) (fun q => kf q ls H locs hl hP hS)
theorem gz_if_eq (cx : gC G E cc nL own d) {x : Int32} {off : Int} {tgt : Nat} (hd : decode cc pc = .ok (.ifCond .eq off, 3)) (ht : (pc : Int) + off = (tgt : Int)) (kt : x = 0 → gZ G E cells slots Q t tgt lv st S) (kf : ¬ (x = 0) → gZ G E cells slots Q t (pc + 3) lv st S) : gZ G E cells slots Q t pc lv (.inl x :: st) S :=
  fun ls H locs hl hP hS => lv_if_eq cx.1 cx.2.1 hd ht (fun q => kt q ls H locs hl hP hS) (fun q => kf q ls H locs hl hP hS)
theorem gz_icmp_ne (cx : gC G E cc nL own d) {x y : Int32} {off : Int} {tgt : Nat} (hd : decode cc pc = .ok (.if_icmp .ne off, 3)) (ht : (pc : Int) + off = (tgt : Int)) (kt : ¬ x = y → gZ G E cells slots Q t tgt lv st S) (kf : x = y → gZ G E cells slots Q t (pc + 3) lv st S) : gZ G E cells slots Q t pc lv (.inl y :: .inl x :: st) S :=
  fun ls H locs hl hP hS => lv_icmp_ne cx.1 cx.2.1 hd ht (fun q => kt q ls H locs hl hP hS) (fun q => kf q ls H locs hl hP hS)
theorem gz_if_ne (cx : gC G E cc nL own d) {x : Int32} {off : Int} {tgt : Nat} (hd : decode cc pc = .ok (.ifCond .ne off, 3)) (ht : (pc : Int) + off = (tgt : Int)) (kt : ¬ x = 0 → gZ G E cells slots Q t tgt lv st S) (kf : x = 0 → gZ G E cells slots Q t (pc + 3) lv st S) : gZ G E cells slots Q t pc lv (.inl x :: st) S :=
  fun ls H locs hl hP hS => lv_if_ne cx.1 cx.2.1 hd ht (fun q => kt q ls H locs hl hP hS) (fun q => kf q ls H locs hl hP hS)
theorem gz_icmp_lt (cx : gC G E cc nL own d) {x y : Int32} {off : Int} {tgt : Nat} (hd : decode cc pc = .ok (.if_icmp .lt off, 3)) (ht : (pc : Int) + off = (tgt : Int)) (kt : x < y → gZ G E cells slots Q t tgt lv st S) (kf : ¬ (x < y) → gZ G E cells slots Q t (pc + 3) lv st S) : gZ G E cells slots Q t pc lv (.inl y :: .inl x :: st) S :=
  fun ls H locs hl hP hS => lv_icmp_lt cx.1 cx.2.1 hd ht (fun q => kt q ls H locs hl hP hS) (fun q => kf q ls H locs hl hP hS)
theorem gz_if_lt (cx : gC G E cc nL own d) {x : Int32} {off : Int} {tgt : Nat} (hd : decode cc pc = .ok (.ifCond .lt off, 3)) (ht : (pc : Int) + off = (tgt : Int)) (kt : x < 0 → gZ G E cells slots Q t tgt lv st S) (kf : ¬ (x < 0) → gZ G E cells slots Q t (pc + 3) lv st S) : gZ G E cells slots Q t pc lv (.inl x :: st) S :=
  fun ls H locs hl hP hS => lv_if_lt cx.1 cx.2.1 hd ht (fun q => kt q ls H locs hl hP hS) (fun q => kf q ls H locs hl hP hS)
theorem gz_icmp_ge (cx : gC G E cc nL own d) {x y : Int32} {off : Int} {tgt : Nat} (hd : decode cc pc = .ok (.if_icmp .ge off, 3)) (ht : (pc : Int) + off = (tgt : Int)) (kt : y ≤ x → gZ G E cells slots Q t tgt lv st S) (kf : ¬ (y ≤ x) → gZ G E cells slots Q t (pc + 3) lv st S) : gZ G E cells slots Q t pc lv (.inl y :: .inl x :: st) S :=
  fun ls H locs hl hP hS => lv_icmp_ge cx.1 cx.2.1 hd ht (fun q => kt q ls H locs hl hP hS) (fun q => kf q ls H locs hl hP hS)
theorem gz_if_ge (cx : gC G E cc nL own d) {x : Int32} {off : Int} {tgt : Nat} (hd : decode cc pc = .ok (.ifCond .ge off, 3)) (ht : (pc : Int) + off = (tgt : Int)) (kt : 0 ≤ x → gZ G E cells slots Q t tgt lv st S) (kf : ¬ (0 ≤ x) → gZ G E cells slots Q t (pc + 3) lv st S) : gZ G E cells slots Q t pc lv (.inl x :: st) S :=
  fun ls H locs hl hP hS => lv_if_ge cx.1 cx.2.1 hd ht (fun q => kt q ls H locs hl hP hS) (fun q => kf q ls H locs hl hP hS)
theorem gz_icmp_gt (cx : gC G E cc nL own d) {x y : Int32} {off : Int} {tgt : Nat} (hd : decode cc pc = .ok (.if_icmp .gt off, 3)) (ht : (pc : Int) + off = (tgt : Int)) (kt : y < x → gZ G E cells slots Q t tgt lv st S) (kf : ¬ (y < x) → gZ G E cells slots Q t (pc + 3) lv st S) : gZ G E cells slots Q t pc lv (.inl y :: .inl x :: st) S :=
  fun ls H locs hl hP hS => lv_icmp_gt cx.1 cx.2.1 hd ht (fun q => kt q ls H locs hl hP hS) (fun q => kf q ls H locs hl hP hS)
theorem gz_if_gt (cx : gC G E cc nL own d) {x : Int32} {off : Int} {tgt : Nat} (hd : decode cc pc = .ok (.ifCond .gt off, 3)) (ht : (pc : Int) + off = (tgt : Int)) (kt : 0 < x → gZ G E cells slots Q t tgt lv st S) (kf : ¬ (0 < x) → gZ G E cells slots Q t (pc + 3) lv st S) : gZ G E cells slots Q t pc lv (.inl x :: st) S :=
  fun ls H locs hl hP hS => lv_if_gt cx.1 cx.2.1 hd ht (fun q => kt q ls H locs hl hP hS) (fun q => kf q ls H locs hl hP hS)
theorem gz_icmp_le (cx : gC G E cc nL own d) {x y : Int32} {off : Int} {tgt : Nat} (hd : decode cc pc = .ok (.if_icmp .le off, 3)) (ht : (pc : Int) + off = (tgt : Int)) (kt : x ≤ y → gZ G E cells slots Q t tgt lv st S) (kf : ¬ (x ≤ y) → gZ G E cells slots Q t (pc + 3) lv st S) : gZ G E cells slots Q t pc lv (.inl y :: .inl x :: st) S :=
  fun ls H locs hl hP hS => lv_icmp_le cx.1 cx.2.1 hd ht (fun q => kt q ls H locs hl hP hS) (fun q => kf q ls H locs hl hP hS)
theorem gz_if_le (cx : gC G E cc nL own d) {x : Int32} {off : Int} {tgt : Nat} (hd : decode cc pc = .ok (.ifCond .le off, 3)) (ht : (pc : Int) + off = (tgt : Int)) (kt : x ≤ 0 → gZ G E cells slots Q t tgt lv st S) (kf : ¬ (x ≤ 0) → gZ G E cells slots Q t (pc + 3) lv st S) : gZ G E cells slots Q t pc lv (.inl x :: st) S :=
  fun ls H locs hl hP hS => lv_if_le cx.1 cx.2.1 hd ht (fun q => kt q ls H locs hl hP hS) (fun q => kf q ls H locs hl hP hS)
theorem gz_goto (cx : gC G E cc nL own d) {off : Int} {tgt : Nat} (hd : decode cc pc = .ok (.goto off, 3)) (ht : (pc : Int) + off = (tgt : Int)) (k : gZ G E cells slots Q t tgt lv st S) : gZ G E cells slots Q t pc lv st S :=
  fun ls H locs hl hP hS => lv_goto cx.1 cx.2.1 hd ht (k ls H locs hl hP hS)
theorem gz_tableOut (cx : gC G E cc nL own d) {dflt lo hi : Int} {offs : Array Int} {len : Nat} {x : Int32} {tgt : Nat} (hd : decode cc pc = .ok (.tableswitch dflt lo hi offs, len)) (h : x.toInt < lo ∨ hi < x.toInt) (ht : (pc : Int) + dflt = (tgt : Int)) (k : gZ G E cells slots Q t tgt lv st S) : gZ G E cells slots Q t pc lv (.inl x :: st) S :=
  fun ls H locs hl hP hS => lv_tableOut cx.1 cx.2.1 hd h ht (k ls H locs hl hP hS)
theorem gz_tableIn (cx : gC G E cc nL own d) {dflt lo hi : Int} {offs : Array Int} {len : Nat} {x : Int32} {off : Int} {tgt : Nat} (hd : decode cc pc = .ok (.tableswitch dflt lo hi offs, len)) (h1 : ¬ x.toInt < lo) (h2 : ¬ hi < x.toInt) (ho : offs[(x.toInt - lo).toNat]? = some off) (ht : (pc : Int) + off = (tgt : Int)) (k : gZ G E cells slots Q t tgt lv st S) : gZ G E cells slots Q t pc lv (.inl x :: st) S :=
  fun ls H locs hl hP hS => lv_tableIn cx.1 cx.2.1 hd h1 h2 ho ht (k ls H locs hl hP hS)
theorem gz_weak {lv' : List (Option gV)} (h : gLe lv' lv) (k : gZ G E cells slots Q t pc lv' st S) : gZ G E cells slots Q t pc lv st S :=
  fun ls H locs hl hP hS => k ls H locs (hl.weak (gLe.spec h).1 (gLe.spec h).2) hP hS
/-! fields -/
theorem gz_getI (cx : gC G E cc nL own d) {k : gK} {index ci f : Nat} (hlk : gLk own index ci f) (hd : decode cc pc = .ok (.getfield index, 3)) (hk : k ∈ gKs G t) (hs : gSh G.1 k = .inl ci) (hr : gRf ci f = false)
    (kk : gZ G E cells slots Q t (pc + 3) lv (.inl (S.1 k f) :: st) S) : gZ G E cells slots Q t pc lv (.inr (some k) :: st) S := by
  intro ls H locs hl hP hS
  obtain ⟨C, T, N, hc, hN, hf, hu, hw⟩ := hlk
  obtain ⟨hx, hb, hml, hown, hts, hK, hfr, hlo, hsy⟩ := cx
  obtain ⟨i, hi, hg⟩ := gW_get (S := S) hk
  rw [gE_obj hs] at hg
  exact va_get (v := .int (S.1 k f)) hx hb hts hu hown hK.1 hP.1 i hg hc f hf (hts _ hw) (fun _ h => h) (by rw [gFs_at (by rw [hN]; exact hf), hr]; rfl) hd (kk ls H locs hl hP hS)
theorem gz_getR (cx : gC G E cc nL own d) {k : gK} {r : Option gK} {index ci f : Nat} (hlk : gLk own index ci f) (hd : decode cc pc = .ok (.getfield index, 3)) (hk : k ∈ gKs G t) (hs : gSh G.1 k = .inl ci) (hr : gRf ci f = true) (hv : S.2 k f = r)
    (kk : gZ G E cells slots Q t (pc + 3) lv (.inr r :: st) S) : gZ G E cells slots Q t pc lv (.inr (some k) :: st) S := by
  subst hv
  intro ls H locs hl hP hS
  obtain ⟨C, T, N, hc, hN, hf, hu, hw⟩ := hlk
  obtain ⟨hx, hb, hml, hown, hts, hK, hfr, hlo, hsy⟩ := cx
  obtain ⟨i, hi, hg⟩ := gW_get (S := S) hk
  rw [gE_obj hs] at hg
  exact va_get (v := gRv G (S.2 k f)) hx hb hts hu hown hK.1 hP.1 i hg hc f hf (hts _ hw) (fun _ h => h) (by rw [gFs_at (by rw [hN]; exact hf), hr]; rfl) hd (kk ls H locs hl hP hS)
theorem gFs_I {k : gK} {ci f : Nat} {v : Int32} (hr : gRf ci f = false) : (gFs G S k ci).set f (.int v) = gFs G (gI S k f v) k ci := by
  apply List.ext_getElem?
  intro j
  by_cases hj : j < gNf ci
  · by_cases hjf : j = f
    · subst hjf
      rw [List.getElem?_set_self (by rw [gFs_len]; exact hj), gFs_at hj, hr]
      simp [gI]
    · rw [List.getElem?_set_ne (Ne.symm hjf), gFs_at hj, gFs_at hj]
      simp [gI, hjf]
  · rw [List.getElem?_eq_none (by rw [List.length_set, gFs_len]; omega), List.getElem?_eq_none (by rw [gFs_len]; omega)]
theorem gFs_X {k : gK} {ci f : Nat} {r : Option gK} (hr : gRf ci f = true) : (gFs G S k ci).set f (gRv G r) = gFs G (gX S k f r) k ci := by
  apply List.ext_getElem?
  intro j
  by_cases hj : j < gNf ci
  · by_cases hjf : j = f
    · subst hjf
      rw [List.getElem?_set_self (by rw [gFs_len]; exact hj), gFs_at hj, hr]
      simp [gX]
    · rw [List.getElem?_set_ne (Ne.symm hjf), gFs_at hj, gFs_at hj]
      simp [gX, hjf]
  · rw [List.getElem?_eq_none (by rw [List.length_set, gFs_len]; omega), List.getElem?_eq_none (by rw [gFs_len]; omega)]
theorem gz_putI (cx : gC G E cc nL own d) {k : gK} {index ci f : Nat} {ty : FieldType} {fin : Bool} {v : Int32} (hlk : gLp own index ci f ty fin) (hd : decode cc pc = .ok (.putfield index, 3)) (hk : k ∈ gKs G t) (hs : gSh G.1 k = .inl ci) (hr : gRf ci f = false) (hty : narrow ty (.int v) = .int v ∧ fits ty (.int v) = true) (hfin : fin = true → E.2.2.2.2.2.2.2.2.1.name = "<init>")
    (kk : gZ G E cells slots Q t (pc + 3) lv st (gI S k f v)) : gZ G E cells slots Q t pc lv (.inl v :: .inr (some k) :: st) S := by
  intro ls H locs hl hP hS
  obtain ⟨hx, hb, hml, hown, hts, hK, hfr, hlo, hsy⟩ := cx
  obtain ⟨i, hi, hg⟩ := gW_get (S := S) hk
  rw [gE_obj hs] at hg
  refine g_put (v := .int v) hx hb hlk hfin hts hown hK.1 hP.1 (gD hK.2) hS i hg hty.1 hty.2 gFs_len hd (fun H1 locs1 hP1 hz hS1 => kk ls H1 locs1 hl ⟨?_, by rw [hz]; exact hP.2⟩ hS1)
  rw [gFs_I hr, ← gE_obj hs, gW_set hK.2 hi (fun k' h' => gE_I h')] at hP1
  exact hP1
theorem gz_putR (cx : gC G E cc nL own d) {k : gK} {r : Option gK} {index ci f : Nat} {ty : FieldType} {fin : Bool} (hlk : gLp own index ci f ty fin) (hd : decode cc pc = .ok (.putfield index, 3)) (hk : k ∈ gKs G t) (hs : gSh G.1 k = .inl ci) (hr : gRf ci f = true) (hty : ∀ x : Option Nat, narrow ty (va_rf x) = va_rf x ∧ fits ty (va_rf x) = true) (hfin : fin = true → E.2.2.2.2.2.2.2.2.1.name = "<init>")
    (kk : gZ G E cells slots Q t (pc + 3) lv st (gX S k f r)) : gZ G E cells slots Q t pc lv (.inr r :: .inr (some k) :: st) S := by
  intro ls H locs hl hP hS
  obtain ⟨hx, hb, hml, hown, hts, hK, hfr, hlo, hsy⟩ := cx
  obtain ⟨i, hi, hg⟩ := gW_get (S := S) hk
  rw [gE_obj hs] at hg
  refine g_put (v := gRv G r) hx hb hlk hfin hts hown hK.1 hP.1 (gD hK.2) hS i hg (hty _).1 (hty _).2 gFs_len hd (fun H1 locs1 hP1 hz hS1 => kk ls H1 locs1 hl ⟨?_, by rw [hz]; exact hP.2⟩ hS1)
  rw [gFs_X hr, ← gE_obj hs, gW_set hK.2 hi (fun k' h' => gE_X h')] at hP1
  exact hP1
/-! arrays: an index that is a number in range -/
theorem gz_iaload (cx : gC G E cc nL own d) {k : gK} {x : Int32} {j n : Nat} (hd : decode cc pc = .ok (.iaload, 1)) (hk : k ∈ gKs G t) (hs : gSh G.1 k = .inr (0, n)) (hx : x = nI j) (hj : j < n) (hn : n < 2 ^ 31)
    (kk : gZ G E cells slots Q t (pc + 1) lv (.inl (S.1 k j) :: st) S) : gZ G E cells slots Q t pc lv (.inl x :: .inr (some k) :: st) S := by
  subst hx
  intro ls H locs hl hP hS
  obtain ⟨i, hi, hg⟩ := gW_get (S := S) hk
  rw [gE_arr hs] at hg
  have h := kk ls H locs hl hP hS
  refine va_iald cx.1 cx.2.1 cx.2.2.2.2.2.1.1 hP.1 i 0 hg (gTys_at (t := 0) gTy_0.1) (vp_in_nI hj hn) hd ?_
  rw [nI_clamp (by omega)]
  exact h
theorem gz_zaload (cx : gC G E cc nL own d) {k : gK} {x : Int32} {j n : Nat} (hd : decode cc pc = .ok (.baload, 1)) (hk : k ∈ gKs G t) (hs : gSh G.1 k = .inr (1, n)) (hx : x = nI j) (hj : j < n) (hn : n < 2 ^ 31)
    (kk : gZ G E cells slots Q t (pc + 1) lv (.inl (S.1 k j) :: st) S) : gZ G E cells slots Q t pc lv (.inl x :: .inr (some k) :: st) S := by
  subst hx
  intro ls H locs hl hP hS
  obtain ⟨i, hi, hg⟩ := gW_get (S := S) hk
  rw [gE_arr hs] at hg
  have h := kk ls H locs hl hP hS
  refine va_zald cx.1 cx.2.1 cx.2.2.2.2.2.1.1 hP.1 i 1 hg (gTys_at (t := 1) gTy_0.2.1) (vp_in_nI hj hn) hd ?_
  rw [nI_clamp (by omega)]
  exact h
theorem gz_aaload (cx : gC G E cc nL own d) {k : gK} {r : Option gK} {x : Int32} {j n ty : Nat} {C : String} (hd : decode cc pc = .ok (.aaload, 1)) (hk : k ∈ gKs G t) (hs : gSh G.1 k = .inr (ty, n)) (ht : 2 ≤ ty ∧ ty < gNt ∧ gTy ty = .object C) (hv : S.2 k j = r) (hx : x = nI j) (hj : j < n) (hn : n < 2 ^ 31)
    (kk : gZ G E cells slots Q t (pc + 1) lv (.inr r :: st) S) : gZ G E cells slots Q t pc lv (.inl x :: .inr (some k) :: st) S := by
  subst hx; subst hv
  intro ls H locs hl hP hS
  obtain ⟨i, hi, hg⟩ := gW_get (S := S) hk
  rw [gE_arr hs, gAr, if_neg (by omega)] at hg
  have h := kk ls H locs hl hP hS
  have hty := gTys_at (G := G) ht.2.1
  rw [ht.2.2] at hty
  refine va_aldq cx.1 cx.2.1 cx.2.2.2.2.2.1.1 hP.1 i ty hg hty (vp_in_nI hj hn) hd ?_
  rw [nI_clamp (by omega)]
  exact h
theorem gAr_I {k : gK} {ty j : Nat} {v : Int32} (h : ty < 2) : gAr G (gI S k j v) k ty = .inl (upd (S.1 k) j v) := by
  rw [gAr, if_pos h]
  congr 1
  funext q
  simp [gI, upd]
theorem gz_iastore (cx : gC G E cc nL own d) {k : gK} {x v : Int32} {j n : Nat} (hd : decode cc pc = .ok (.iastore, 1)) (hk : k ∈ gKs G t) (hs : gSh G.1 k = .inr (0, n)) (hx : x = nI j) (hj : j < n) (hn : n < 2 ^ 31)
    (kk : gZ G E cells slots Q t (pc + 1) lv st (gI S k j v)) : gZ G E cells slots Q t pc lv (.inl v :: .inl x :: .inr (some k) :: st) S := by
  subst hx
  intro ls H locs hl hP hS
  obtain ⟨hx, hb, hml, hown, hts, hK, hfr, hlo, hsy⟩ := cx
  obtain ⟨i, hi, hg⟩ := gW_get (S := S) hk
  rw [gE_arr hs] at hg
  refine g_iast hx hb hK.1 hP.1 (gD hK.2) hS i 0 hg (gTys_at (t := 0) gTy_0.1) (vp_in_nI hj hn) hd (fun H1 locs1 hP1 hz hS1 => kk ls H1 locs1 hl ⟨?_, by rw [hz]; exact hP.2⟩ hS1)
  rw [nI_clamp (by omega), ← gAr_I (G := G) (S := S) (ty := 0) (by omega), ← gE_arr hs, gW_set hK.2 hi (fun k' h' => gE_I h')] at hP1
  exact hP1
theorem gz_zastore (cx : gC G E cc nL own d) {k : gK} {x v : Int32} {j n : Nat} (hd : decode cc pc = .ok (.bastore, 1)) (hk : k ∈ gKs G t) (hs : gSh G.1 k = .inr (1, n)) (hz : narrow .boolean (.int v) = .int v) (hx : x = nI j) (hj : j < n) (hn : n < 2 ^ 31)
    (kk : gZ G E cells slots Q t (pc + 1) lv st (gI S k j v)) : gZ G E cells slots Q t pc lv (.inl v :: .inl x :: .inr (some k) :: st) S := by
  subst hx
  intro ls H locs hl hP hS
  obtain ⟨hx, hb, hml, hown, hts, hK, hfr, hlo, hsy⟩ := cx
  obtain ⟨i, hi, hg⟩ := gW_get (S := S) hk
  rw [gE_arr hs] at hg
  refine g_zast hx hb hK.1 hP.1 (gD hK.2) hS i 1 hg (gTys_at (t := 1) gTy_0.2.1) hz (vp_in_nI hj hn) hd (fun H1 locs1 hP1 hz hS1 => kk ls H1 locs1 hl ⟨?_, by rw [hz]; exact hP.2⟩ hS1)
  rw [nI_clamp (by omega), ← gAr_I (G := G) (S := S) (ty := 1) (by omega), ← gE_arr hs, gW_set hK.2 hi (fun k' h' => gE_I h')] at hP1
  exact hP1
theorem gAr_X {k k2 : gK} {ty j : Nat} (h : 2 ≤ ty) : gAr G (gX S k j (some k2)) k ty = .inr (.inr (.inr (.inr (va_up (fun j => (S.2 k j).map (gAd G)) j (some (gAd G k2)))))) := by
  rw [gAr, if_neg (by omega)]
  congr 4
  funext q
  by_cases h : q = j <;> simp [gX, va_up, h]
theorem gz_aastore (cx : gC G E cc nL own d) {k k2 : gK} {x : Int32} {j n ty ci : Nat} {C : String} {T : u_T} {N : Nat} (hd : decode cc pc = .ok (.aastore, 1)) (hk : k ∈ gKs G t) (hk2 : k2 ∈ gKs G t) (hs : gSh G.1 k = .inr (ty, n)) (hs2 : gSh G.1 k2 = .inl ci) (ht : 2 ≤ ty ∧ ty < gNt ∧ gTy ty = .object C) (hc : gCl[ci]? = some (C, T, N)) (hx : x = nI j) (hj : j < n) (hn : n < 2 ^ 31)
    (kk : gZ G E cells slots Q t (pc + 1) lv st (gX S k j (some k2))) : gZ G E cells slots Q t pc lv (.inr (some k2) :: .inl x :: .inr (some k) :: st) S := by
  subst hx
  intro ls H locs hl hP hS
  obtain ⟨hx, hb, hml, hown, hts, hK, hfr, hlo, hsy⟩ := cx
  obtain ⟨i, hi, hg⟩ := gW_get (S := S) hk
  obtain ⟨i2, hi2, hg2⟩ := gW_get (S := S) hk2
  rw [gE_arr hs, gAr, if_neg (by omega)] at hg
  rw [gE_obj hs2] at hg2
  have hty := gTys_at (G := G) ht.2.1
  rw [ht.2.2] at hty
  refine g_aast hx hb hK.1 hP.1 (gD hK.2) hS i ty i2 ci hg hty hg2 hc (vp_in_nI hj hn) hd (fun H1 locs1 hP1 hz hS1 => kk ls H1 locs1 hl ⟨?_, by rw [hz]; exact hP.2⟩ hS1)
  rw [nI_clamp (by omega), ← gAr_X (G := G) (S := S) (ty := ty) (by omega), ← gE_arr hs, gW_set hK.2 hi (fun k' h' => gE_X h')] at hP1
  exact hP1
theorem gz_alen (cx : gC G E cc nL own d) {k : gK} {n ty : Nat} (hd : decode cc pc = .ok (.arraylength, 1)) (hk : k ∈ gKs G t) (hs : gSh G.1 k = .inr (ty, n)) (ht : ty < gNt)
    (kk : gZ G E cells slots Q t (pc + 1) lv (.inl (nI n) :: st) S) : gZ G E cells slots Q t pc lv (.inr (some k) :: st) S := by
  intro ls H locs hl hP hS
  obtain ⟨i, hi, hg⟩ := gW_get (S := S) hk
  rw [gE_arr hs] at hg
  exact va_alen (v := nI n) cx.1 cx.2.1 cx.2.2.2.2.2.1.1 hP.1 i ty hg (gTys_at ht) rfl hd (kk ls H locs hl hP hS)
/-! ends -/
theorem gz_ireturn (cx : gC G E cc nL own d) {Rt : Option gV → gS → Prop} {v : Int32} {ty : FieldType} (hr : E.2.2.2.2.2.2.2.2.1.sig.returnType = some ty) (hn : narrow ty (.int v) = .int v) (hd : decode cc pc = .ok (.ireturn, 1)) (hq : Rt (some (.inl v)) S) : gZ G E cells slots (gEnd G E cells slots t Rt) t pc lv [.inl v] S := by
  intro ls H locs hl hP hS
  obtain ⟨hx, hb, hml, hown, hts, hK, hfr, hlo, hsy⟩ := cx
  exact W.zret hx hb hr hn (fun u hu _ => ⟨⟨some (.inl v), S, rfl, hq, by rw [hu]; exact hP⟩, hS.F hu⟩) hS.2.2 hd hsy
theorem gz_return (cx : gC G E cc nL own d) {Rt : Option gV → gS → Prop} (hr : E.2.2.2.2.2.2.2.2.1.sig.returnType = none) (hd : decode cc pc = .ok (.return_, 1)) (hq : Rt none S) : gZ G E cells slots (gEnd G E cells slots t Rt) t pc lv [] S := by
  intro ls H locs hl hP hS
  obtain ⟨hx, hb, hml, hown, hts, hK, hfr, hlo, hsy⟩ := cx
  exact W.vret hx hb hr (fun u hu _ => ⟨⟨none, S, rfl, hq, by rw [hu]; exact hP⟩, hS.F hu⟩) hS.2.2 hd hsy
theorem gz_areturn (cx : gC G E cc nL own d) {Rt : Option gV → gS → Prop} {r : Option gK} {C : String} (hr : E.2.2.2.2.2.2.2.2.1.sig.returnType = some (.object C)) (hd : decode cc pc = .ok (.areturn, 1)) (hq : Rt (some (.inr r)) S) : gZ G E cells slots (gEnd G E cells slots t Rt) t pc lv [.inr r] S := by
  intro ls H locs hl hP hS
  obtain ⟨hx, hb, hml, hown, hts, hK, hfr, hlo, hsy⟩ := cx
  exact W.aret (v := gRv G r) hx hb hr (Or.inl ⟨_, rfl⟩) (by cases r with | none => exact Or.inl rfl | some k => exact Or.inr ⟨_, rfl⟩) (fun u hu _ => ⟨⟨some (.inr r), S, rfl, hq, by rw [hu]; exact hP⟩, hS.F hu⟩) hS.2.2 hd hsy
end GZ
/-! calls -/
theorem g_callW {G : gG} {p : Program} {l : Launch} {e : Env} {R : Room} {s : State} {m : MethodId} {args : Array Value} {below : List Frame} {meth : Method} {c : Code} {H : Heap} {locs : List Loc} {cells slots mc ms pc t' : Nat} {Q : State → Prop} {ls : Array Slot} {st0 rest : List Value} {a : Array Value} {Rt : Option gV → gS → Prop}
    (hr : va_Run p l e R s m args below meth c H locs cells slots mc ms (F0 m pc ls st0) rest (gQ G t' Rt a) (gA G)) (hS : va_S (gA G) s.heap H locs)
    (kk : ∀ (v : Option gV) (S' : gS) (H1 : Heap) (locs1 : List Loc), Rt v S' → gP G t' S' H1 → va_S (gA G) s.heap H1 locs1 → W p l e R s m args below meth c H1 locs1 (cells + mc) (slots + ms) Q (F0 m (pc + 3) ls ((v.map (gc G)).toList ++ rest))) :
    W p l e R s m args below meth c H locs cells slots Q (F0 m pc ls st0) := by
  intro T hT X
  obtain ⟨v, st₀, u, T', L, h0, X', hL, e1, e2, ⟨⟨v', S', hv, hp, hb⟩, hz, hk⟩, st⟩ := hr T hT X
  cases hv
  rw [h0] at hz hk
  obtain ⟨t2, a1, b1⟩ := kk v' S' T'.heap (locs ++ L) hp (by rw [e1]; exact hb)
    ⟨Nat.le_trans hS.1 (by rw [e1]; exact hz), fun q h1 h2 => by rw [e1, hk q (Nat.lt_of_lt_of_le h1 hS.1) h2]; exact hS.2.1 q h1 h2, fun q hq => by
      rcases List.mem_append.mp hq with h | h
      · exact hS.2.2 q h
      · exact hL q h⟩ T' rfl X'
  exact ⟨t2, st t2 a1, b1⟩
theorem g_blind (G : gG) (t : Nat) (av : List gV) (S : gS) : FrameBlind (gPc G t av S) := fun a U g mk h => ⟨h.1, h.2.1, gKn.moved (u := U) (U := U.calling g mk a) (Vm.Alike.refl U.vm) h.2.2⟩
theorem g_cats (G : gG) (st : List gV) : ((st.map (gc G)).map fun v => v.category).sum = st.length := by
  induction st with
  | nil => rfl
  | cons a l ih => simp only [List.map_cons, List.sum_cons, gc_cat, ih, List.length_cons]; omega
/-- what a call rests on -/
def gLv (own : String) (index : Nat) (y : MethodName) (ws : List Cond) (n : Nat) : Prop := ∃ (bytes : ByteArray) (maxL : Nat) (ret : Option FieldType), ws = Cond.code y bytes maxL ret :: gTb ∧ Cond.code y bytes maxL ret ∈ gTb ∧ Cond.methodLink own index y ∈ gTb ∧ Cond.instanceMethod y ∈ gTb ∧ Cond.selects y.cls y y ∈ gTb ∧ Cond.initialized y.cls ∈ gTb ∧
  (y.cls ≠ "java/lang/invoke/MethodHandle" ∧ y.cls ≠ "java/lang/invoke/VarHandle" ∧ (parseMethodDescriptor y.desc).map (fun d => d.parameters.length) = some n) ∧ maxL ≤ 21
def gLs (own : String) (index : Nat) (y : MethodName) (ws : List Cond) (n : Nat) : Prop := ∃ (bytes : ByteArray) (maxL : Nat) (ret : Option FieldType), ws = Cond.code y bytes maxL ret :: gTb ∧ Cond.code y bytes maxL ret ∈ gTb ∧ Cond.methodLink own index y ∈ gTb ∧ Cond.static y ∈ gTb ∧ Cond.initialized y.cls ∈ gTb ∧
  (y.cls ≠ "java/lang/invoke/MethodHandle" ∧ y.cls ≠ "java/lang/invoke/VarHandle" ∧ (parseMethodDescriptor y.desc).map (fun d => d.parameters.length) = some n) ∧ maxL ≤ 21
def gLi (own : String) (index : Nat) (y : MethodName) (ws : List Cond) (n : Nat) : Prop := ∃ (bytes : ByteArray) (maxL : Nat), ws = Cond.code y bytes maxL none :: gTb ∧ Cond.code y bytes maxL none ∈ gTb ∧ Cond.methodLink own index y ∈ gTb ∧ Cond.instanceMethod y ∈ gTb ∧ Cond.initialized y.cls ∈ gTb ∧ y.name = "<init>" ∧
  (y.cls ≠ "java/lang/invoke/MethodHandle" ∧ y.cls ≠ "java/lang/invoke/VarHandle" ∧ (parseMethodDescriptor y.desc).map (fun d => d.parameters.length) = some n) ∧ maxL ≤ 21
theorem gGood {y : MethodName} {bytes : ByteArray} {maxL : Nat} {ret : Option FieldType} (h : Cond.code y bytes maxL ret ∈ gTb) : GoodIn gTb (Cond.code y bytes maxL ret :: gTb) := fun w hw => by
  rcases List.mem_cons.mp hw with rfl | hw
  · exact ⟨h, good_of_word (gTb_good _ h)⟩
  · exact ⟨hw, good_of_word (gTb_good _ hw)⟩
section GZC
variable {G : gG} {E : gEnv} {cells slots : Nat} {Q : State → Prop} {t pc : Nat} {lv : List (Option gV)} {st : List gV} {S : gS} {cc : ByteArray} {nL : Nat} {own : String} {d : Nat}
theorem gz_callV (cx : gC G E cc nL own d) {y : MethodName} {ws : List Cond} {d' mc ms t' n index ci : Nat} {b : gK} {As st0 : List gV} {T : u_T} {N : Nat} {Rt : Option gV → gS → Prop} (hlv : gLv own index y ws n) (hd : decode cc pc = .ok (.invokevirtual index, 3)) (hM : gM G E.2.1 y ws d' mc ms t t' (.inr (some b) :: As) S Rt) (hdd : d' < d) (hn : As.length = n) (hb : b ∈ gKs G t) (hs : gSh G.1 b = .inl ci) (hc : gCl[ci]? = some (y.cls, T, N)) (hst : st0 = As.reverse ++ .inr (some b) :: st) (hnl : lv.length = nL) (hsl : st.length ≤ 8) (hf : cells + mc ≤ E.2.2.2.1.cells ∧ slots + ms ≤ E.2.2.2.1.slots)
    (kk : ∀ (v : Option gV) (S' : gS), Rt v S' → gZ G E (cells + mc) (slots + ms) Q t' (pc + 3) lv (v.toList ++ st) S') : gZ G E cells slots Q t pc lv st0 S := by
  subst hst
  intro ls H locs hl hP hS
  obtain ⟨bytes, maxL, ret, hw, hcd, hml2, hins, hsel, hini, hy, hm⟩ := hlv
  subst hw
  have hG := gGood hcd
  obtain ⟨hx, hcb, hml, hown, hts, hK, hfr, hlo, hsy⟩ := cx
  obtain ⟨i, hi, hg⟩ := gW_get (S := S) hb
  rw [gE_obj hs] at hg
  refine g_callW (va_runV (As := As.map (gc G)) (rest := st.map (gc G)) (nL := nL) ⟨hx, hcb, hml, hown, hts⟩ hM ⟨callB_of n hts hG rfl rfl rfl (hts _ hini) (hts _ hml2) hy ⟨by show d' + 1 ≤ _; omega, by show 8 + (maxL + 11) + 40 * d' ≤ _; omega⟩, hts _ hins, hts _ hsel⟩ ⟨g_blind G t _ S, va_recv hK.1 hP.1 hc hg, fun U hU hW => ⟨rfl, by rw [hU]; exact hP, hK.moved hW.alike⟩⟩ rfl (by rw [List.length_map]; exact hn) (by rw [← hnl]; exact hl.1) (by show List.map (gc G) _ = _; rw [List.map_append, List.map_reverse]; rfl) (lv_room (by rw [g_cats]; exact hsl)) hd hf) hS (fun v S' H1 locs1 hR hP1 hS1 => ?_)
  have h := kk v S' hR ls H1 locs1 hl hP1 hS1
  rw [List.map_append] at h
  cases v <;> exact h
theorem gz_callS (cx : gC G E cc nL own d) {y : MethodName} {ws : List Cond} {d' mc ms t' n index : Nat} {As st0 : List gV} {Rt : Option gV → gS → Prop} (hlv : gLs own index y ws n) (hd : decode cc pc = .ok (.invokestatic index, 3)) (hM : gM G E.2.1 y ws d' mc ms t t' As S Rt) (hdd : d' < d) (hn : As.length = n) (hst : st0 = As.reverse ++ st) (hnl : lv.length = nL) (hsl : st.length ≤ 8) (hf : cells + mc ≤ E.2.2.2.1.cells ∧ slots + ms ≤ E.2.2.2.1.slots)
    (kk : ∀ (v : Option gV) (S' : gS), Rt v S' → gZ G E (cells + mc) (slots + ms) Q t' (pc + 3) lv (v.toList ++ st) S') : gZ G E cells slots Q t pc lv st0 S := by
  subst hst
  intro ls H locs hl hP hS
  obtain ⟨bytes, maxL, ret, hw, hcd, hml2, hins, hini, hy, hm⟩ := hlv
  subst hw
  have hG := gGood hcd
  obtain ⟨hx, hcb, hml, hown, hts, hK, hfr, hlo, hsy⟩ := cx
  refine g_callW (va_runS (As := As.map (gc G)) (rest := st.map (gc G)) (nL := nL) ⟨hx, hcb, hml, hown, hts⟩ hM ⟨callB_of n hts hG rfl rfl rfl (hts _ hini) (hts _ hml2) hy ⟨by show d' + 1 ≤ _; omega, by show 8 + (maxL + 11) + 40 * d' ≤ _; omega⟩, hts _ hins⟩ ⟨g_blind G t _ S, fun U hU hW => ⟨rfl, by rw [hU]; exact hP, hK.moved hW.alike⟩⟩ rfl (by rw [List.length_map]; exact hn) (by rw [← hnl]; exact hl.1) (by show List.map (gc G) _ = _; rw [List.map_append, List.map_reverse]) (lv_room (by rw [g_cats]; exact hsl)) hd hf) hS (fun v S' H1 locs1 hR hP1 hS1 => ?_)
  have h := kk v S' hR ls H1 locs1 hl hP1 hS1
  rw [List.map_append] at h
  cases v <;> exact h
theorem gz_max (cx : gC G E cc nL own d) {index : Nat} {x y : Int32} (hl1 : Cond.methodLink own index Lib.Math.max.name ∈ gTb) (hl2 : Cond.static Lib.Math.max.name ∈ gTb) (hl3 : Cond.initialized "java/lang/Math" ∈ gTb) (hl4 : Cond.code Lib.Math.max.name Lib.Math.max.code 2 (some .int) ∈ gTb) (hd : decode cc pc = .ok (.invokestatic index, 3)) (hdd : 1 ≤ d) (hnl : lv.length = nL) (hsl : st.length ≤ 8) (hf : cells ≤ E.2.2.2.1.cells ∧ slots ≤ E.2.2.2.1.slots)
    (kk : gZ G E cells slots Q t (pc + 3) lv (.inl (if x < y then y else x) :: st) S) : gZ G E cells slots Q t pc lv (.inl y :: .inl x :: st) S := by
  intro ls H locs hl hP hS
  obtain ⟨hx, hcb, hml, hown, hts, hK, hfr, hlo, hsy⟩ := cx
  exact va_mmax (rest := st.map (gc G)) hx hcb (by rw [hml, ← hnl]; exact hl.1.symm) hown (hts _ hl1) (hts _ hl2) (hts _ hl3) (hts _ hl4) (by omega) (by rw [g_cats]; omega) hf.1 hf.2 hd (kk ls H locs hl hP hS)
theorem gz_min (cx : gC G E cc nL own d) {index : Nat} {x y : Int32} (hl1 : Cond.methodLink own index Lib.Math.min.name ∈ gTb) (hl2 : Cond.static Lib.Math.min.name ∈ gTb) (hl3 : Cond.initialized "java/lang/Math" ∈ gTb) (hl4 : Cond.code Lib.Math.min.name Lib.Math.min.code 2 (some .int) ∈ gTb) (hd : decode cc pc = .ok (.invokestatic index, 3)) (hdd : 1 ≤ d) (hnl : lv.length = nL) (hsl : st.length ≤ 8) (hf : cells ≤ E.2.2.2.1.cells ∧ slots ≤ E.2.2.2.1.slots)
    (kk : gZ G E cells slots Q t (pc + 3) lv (.inl (if y < x then y else x) :: st) S) : gZ G E cells slots Q t pc lv (.inl y :: .inl x :: st) S := by
  intro ls H locs hl hP hS
  obtain ⟨hx, hcb, hml, hown, hts, hK, hfr, hlo, hsy⟩ := cx
  exact va_mmin (rest := st.map (gc G)) hx hcb (by rw [hml, ← hnl]; exact hl.1.symm) hown (hts _ hl1) (hts _ hl2) (hts _ hl3) (hts _ hl4) (by omega) (by rw [g_cats]; omega) hf.1 hf.2 hd (kk ls H locs hl hP hS)
theorem gz_ldcw (cx : gC G E cc nL own d) {index : Nat} {v : Int32} (hc : Cond.constant own index v ∈ gTb) (hd : decode cc pc = .ok (.ldc_w index, 3)) (k : gZ G E cells slots Q t (pc + 3) lv (.inl v :: st) S) : gZ G E cells slots Q t pc lv st S := by
  intro ls H locs hl hP hS
  obtain ⟨hx, hcb, hml, hown, hts, hK, hfr, hlo, hsy⟩ := cx
  exact lv_ldcw hx hcb hown (hts _ hc) hd (k ls H locs hl hP hS)
end GZC
/-! a contract out of a walk -/
theorem g_args (G : gG) : ∀ (av : List gV) (i0 i : Nat) (v : gV), av[i]? = some v → (i0 + i, gc G v) ∈ lv_args i0 (av.map (gc G))
  | [], _, i, v, h => by simp at h
  | a :: av, i0, 0, v, h => by
    simp at h; subst h
    simp [lv_args]
  | a :: av, i0, i + 1, v, h => by
    have h2 := g_args G av (i0 + 1) i v (by simpa using h)
    have e : i0 + 1 + i = i0 + (i + 1) := by omega
    rw [e] at h2
    simp only [List.map_cons, lv_args, gc_cat]
    exact List.mem_cons_of_mem _ h2
theorem g_slots (G : gG) (av : List gV) : (lg_sl (av.map (gc G))).length = av.length := by
  induction av with
  | nil => rfl
  | cons a l ih =>
    simp only [lg_sl, List.map_cons, List.flatMap_cons, gc_cat] at ih ⊢
    simp only [List.length_append, List.length_cons] at ih ⊢
    simp at ih ⊢
    omega
theorem g_entry {G : gG} {av : List gV} {n : Nat} (h : av.length ≤ n) : gL G ((lg_sl (av.map (gc G)) ++ List.replicate (n - (lg_sl (av.map (gc G))).length) Slot.unset).toArray) (av.map some ++ List.replicate (n - av.length) none) := by
  obtain ⟨h1, h2, h3⟩ := lv_entry (av.map (gc G)) (n := n) (by rw [g_slots]; exact h)
  refine ⟨by rw [h1]; simp; omega, h2, fun i v hv => ?_⟩
  have hi : av[i]? = some v := by
    by_cases hl : i < av.length
    · rw [List.getElem?_append_left (by simpa using hl), List.getElem?_map] at hv
      cases ha : av[i]? with
      | none => rw [ha] at hv; cases hv
      | some w => rw [ha] at hv; cases hv; rfl
    · rw [List.getElem?_append_right (by simpa using hl), List.getElem?_replicate] at hv
      split at hv <;> cases hv
  have := h3 _ (g_args G av 0 i v hi)
  simpa using this
theorem gM_of {G : gG} {l : Launch} {y : MethodName} {ws : List Cond} {d mc ms t t' : Nat} {av : List gV} {S : gS} {Rt : Option gV → gS → Prop} {cc : ByteArray} {maxL : Nat} {ret : Option FieldType} (hy : plainName y.cls = true) (hw : ws = Cond.code y cc maxL ret :: gTb) (hL : av.length ≤ maxL)
    (body : ∀ E : gEnv, gC G E cc maxL y.cls d → E.2.2.2.2.2.2.2.2.1.sig.returnType = ret → E.2.2.2.2.2.2.2.2.1.name = y.name → E.2.2.2.1.cells = mc → E.2.2.2.1.slots = ms → E.2.1 = l → gZ G E 0 0 (gEnd G E mc ms t' Rt) t 0 (av.map some ++ List.replicate (maxL - av.length) none) [] S) : gM G l y ws d mc ms t t' av S Rt := by
  refine Met.ofW (cc := cc) (maxL := maxL) (ret := ret) hy hw ?_
  intro p e s m args below meth c s₁ B hml hv
  obtain ⟨rfl, hP, hK⟩ := hv
  have hb := body (p, l, e, (headSpec ws { frames := d, cells := mc, slots := ms, locals := 40 * d }).room, s, m, _, below, meth, c) ⟨B.exec, B.bytes, hml, findClass_of_methodNamed B.named, (fun w h => atoms_spec (ws := ws) B.pre w (by rw [hw]; exact List.mem_cons_of_mem _ h)), hK, Nat.le_refl _, Nat.le_refl _, B.notSynchronized⟩ B.returns (name_of_methodNamed B.named B.method).1 rfl rfl rfl
  rw [lg_entry_eq]
  exact hb _ s.heap [] (g_entry hL) hP va_S.rf
end
section
/-! what each constant pool number links to (written by gen/names.py) -/
theorem qf_G_18 : gLk "GossipNodes" 18 5 0 := ⟨qR_G, qT_G, 5, rfl, rfl, by decide, qu_G, (gTb_1 (i := 211) (by rfl) rfl)⟩
theorem qp_G_18 : gLp "GossipNodes" 18 5 0 (.int) true := ⟨qR_G, qT_G, 5, qt_G, rfl, rfl, by decide, qu_G, (gTb_1 (i := 211) (by rfl) rfl), qk_G, qn_G, rfl, rfl, fun _ => rfl⟩
theorem qf_G_25 : gLk "GossipNodes" 25 5 3 := ⟨qR_G, qT_G, 5, rfl, rfl, by decide, qu_G, (gTb_1 (i := 214) (by rfl) rfl)⟩
theorem qp_G_25 : gLp "GossipNodes" 25 5 3 (.object "GossipNodes$Flight") true := ⟨qR_G, qT_G, 5, qt_G, rfl, rfl, by decide, qu_G, (gTb_1 (i := 214) (by rfl) rfl), qk_G, qn_G, rfl, rfl, fun _ => rfl⟩
theorem qf_G_29 : gLk "GossipNodes" 29 5 2 := ⟨qR_G, qT_G, 5, rfl, rfl, by decide, qu_G, (gTb_1 (i := 213) (by rfl) rfl)⟩
theorem qp_G_29 : gLp "GossipNodes" 29 5 2 (.array (.int)) true := ⟨qR_G, qT_G, 5, qt_G, rfl, rfl, by decide, qu_G, (gTb_1 (i := 213) (by rfl) rfl), qk_G, qn_G, rfl, rfl, fun _ => rfl⟩
theorem qf_G_35 : gLk "GossipNodes" 35 5 1 := ⟨qR_G, qT_G, 5, rfl, rfl, by decide, qu_G, (gTb_1 (i := 212) (by rfl) rfl)⟩
theorem qp_G_35 : gLp "GossipNodes" 35 5 1 (.array (.object "GossipNodes$Node")) true := ⟨qR_G, qT_G, 5, qt_G, rfl, rfl, by decide, qu_G, (gTb_1 (i := 212) (by rfl) rfl), qk_G, qn_G, rfl, rfl, fun _ => rfl⟩
theorem qf_G_42 : gLk "GossipNodes" 42 5 4 := ⟨qR_G, qT_G, 5, rfl, rfl, by decide, qu_G, (gTb_1 (i := 215) (by rfl) rfl)⟩
theorem qp_G_42 : gLp "GossipNodes" 42 5 4 (.int) false := ⟨qR_G, qT_G, 5, qt_G, rfl, rfl, by decide, qu_G, (gTb_1 (i := 215) (by rfl) rfl), qk_G, qn_G, rfl, rfl, fun _ => rfl⟩
theorem qf_G_49 : gLk "GossipNodes" 49 3 5 := ⟨qR_N, qT_N, 18, rfl, rfl, by decide, qu_N, (gTb_1 (i := 160) (by rfl) rfl)⟩
theorem qp_G_49 : gLp "GossipNodes" 49 3 5 (.boolean) false := ⟨qR_N, qT_N, 18, qt_N, rfl, rfl, by decide, qu_N, (gTb_1 (i := 160) (by rfl) rfl), qk_N, qn_N, rfl, rfl, fun h => nomatch h⟩
theorem qf_G_84 : gLk "GossipNodes" 84 1 3 := ⟨qR_F, qT_F, 4, rfl, rfl, by decide, qu_F, (gTb_1 (i := 81) (by rfl) rfl)⟩
theorem qp_G_84 : gLp "GossipNodes" 84 1 3 (.int) false := ⟨qR_F, qT_F, 4, qt_F, rfl, rfl, by decide, qu_F, (gTb_1 (i := 81) (by rfl) rfl), qk_F, qn_F, rfl, rfl, fun h => nomatch h⟩
theorem qf_G_87 : gLk "GossipNodes" 87 1 0 := ⟨qR_F, qT_F, 4, rfl, rfl, by decide, qu_F, (gTb_1 (i := 76) (by rfl) rfl)⟩
theorem qp_G_87 : gLp "GossipNodes" 87 1 0 (.array (.object "GossipNodes$Message")) false := ⟨qR_F, qT_F, 4, qt_F, rfl, rfl, by decide, qu_F, (gTb_1 (i := 76) (by rfl) rfl), qk_F, qn_F, rfl, rfl, fun h => nomatch h⟩
theorem qf_G_97 : gLk "GossipNodes" 97 3 3 := ⟨qR_N, qT_N, 18, rfl, rfl, by decide, qu_N, (gTb_1 (i := 158) (by rfl) rfl)⟩
theorem qf_G_105 : gLk "GossipNodes" 105 0 4 := ⟨qR_E, qT_E, 5, rfl, rfl, by decide, qu_E, (gTb_1 (i := 121) (by rfl) rfl)⟩
theorem qp_G_105 : gLp "GossipNodes" 105 0 4 (.int) false := ⟨qR_E, qT_E, 5, qt_E, rfl, rfl, by decide, qu_E, (gTb_1 (i := 121) (by rfl) rfl), qk_E, qn_E, rfl, rfl, fun h => nomatch h⟩
theorem qf_G_115 : gLk "GossipNodes" 115 1 1 := ⟨qR_F, qT_F, 4, rfl, rfl, by decide, qu_F, (gTb_1 (i := 78) (by rfl) rfl)⟩
theorem qp_G_115 : gLp "GossipNodes" 115 1 1 (.array (.object "GossipNodes$Message")) false := ⟨qR_F, qT_F, 4, qt_F, rfl, rfl, by decide, qu_F, (gTb_1 (i := 78) (by rfl) rfl), qk_F, qn_F, rfl, rfl, fun h => nomatch h⟩
theorem qf_G_118 : gLk "GossipNodes" 118 2 2 := ⟨qR_M, qT_M, 8, rfl, rfl, by decide, qu_M, (gTb_1 (i := 43) (by rfl) rfl)⟩
theorem qp_G_118 : gLp "GossipNodes" 118 2 2 (.int) false := ⟨qR_M, qT_M, 8, qt_M, rfl, rfl, by decide, qu_M, (gTb_1 (i := 43) (by rfl) rfl), qk_M, qn_M, rfl, rfl, fun h => nomatch h⟩
theorem qf_G_121 : gLk "GossipNodes" 121 2 1 := ⟨qR_M, qT_M, 8, rfl, rfl, by decide, qu_M, (gTb_1 (i := 41) (by rfl) rfl)⟩
theorem qp_G_121 : gLp "GossipNodes" 121 2 1 (.int) false := ⟨qR_M, qT_M, 8, qt_M, rfl, rfl, by decide, qu_M, (gTb_1 (i := 41) (by rfl) rfl), qk_M, qn_M, rfl, rfl, fun h => nomatch h⟩
theorem qf_G_128 : gLk "GossipNodes" 128 0 0 := ⟨qR_E, qT_E, 5, rfl, rfl, by decide, qu_E, (gTb_1 (i := 110) (by rfl) rfl)⟩
theorem qp_G_128 : gLp "GossipNodes" 128 0 0 (.int) false := ⟨qR_E, qT_E, 5, qt_E, rfl, rfl, by decide, qu_E, (gTb_1 (i := 110) (by rfl) rfl), qk_E, qn_E, rfl, rfl, fun h => nomatch h⟩
theorem qf_G_131 : gLk "GossipNodes" 131 0 1 := ⟨qR_E, qT_E, 5, rfl, rfl, by decide, qu_E, (gTb_1 (i := 114) (by rfl) rfl)⟩
theorem qp_G_131 : gLp "GossipNodes" 131 0 1 (.int) false := ⟨qR_E, qT_E, 5, qt_E, rfl, rfl, by decide, qu_E, (gTb_1 (i := 114) (by rfl) rfl), qk_E, qn_E, rfl, rfl, fun h => nomatch h⟩
theorem qf_E_9 : gLk "GossipNodes$Entry" 9 0 0 := ⟨qR_E, qT_E, 5, rfl, rfl, by decide, qu_E, (gTb_1 (i := 107) (by rfl) rfl)⟩
theorem qp_E_9 : gLp "GossipNodes$Entry" 9 0 0 (.int) false := ⟨qR_E, qT_E, 5, qt_E, rfl, rfl, by decide, qu_E, (gTb_1 (i := 107) (by rfl) rfl), qk_E, qn_E, rfl, rfl, fun _ => rfl⟩
theorem qf_E_15 : gLk "GossipNodes$Entry" 15 0 1 := ⟨qR_E, qT_E, 5, rfl, rfl, by decide, qu_E, (gTb_1 (i := 111) (by rfl) rfl)⟩
theorem qp_E_15 : gLp "GossipNodes$Entry" 15 0 1 (.int) false := ⟨qR_E, qT_E, 5, qt_E, rfl, rfl, by decide, qu_E, (gTb_1 (i := 111) (by rfl) rfl), qk_E, qn_E, rfl, rfl, fun _ => rfl⟩
theorem qf_E_18 : gLk "GossipNodes$Entry" 18 0 2 := ⟨qR_E, qT_E, 5, rfl, rfl, by decide, qu_E, (gTb_1 (i := 115) (by rfl) rfl)⟩
theorem qp_E_18 : gLp "GossipNodes$Entry" 18 0 2 (.int) false := ⟨qR_E, qT_E, 5, qt_E, rfl, rfl, by decide, qu_E, (gTb_1 (i := 115) (by rfl) rfl), qk_E, qn_E, rfl, rfl, fun _ => rfl⟩
theorem qf_E_21 : gLk "GossipNodes$Entry" 21 0 3 := ⟨qR_E, qT_E, 5, rfl, rfl, by decide, qu_E, (gTb_1 (i := 117) (by rfl) rfl)⟩
theorem qp_E_21 : gLp "GossipNodes$Entry" 21 0 3 (.int) false := ⟨qR_E, qT_E, 5, qt_E, rfl, rfl, by decide, qu_E, (gTb_1 (i := 117) (by rfl) rfl), qk_E, qn_E, rfl, rfl, fun _ => rfl⟩
theorem qf_E_24 : gLk "GossipNodes$Entry" 24 0 4 := ⟨qR_E, qT_E, 5, rfl, rfl, by decide, qu_E, (gTb_1 (i := 119) (by rfl) rfl)⟩
theorem qp_E_24 : gLp "GossipNodes$Entry" 24 0 4 (.int) false := ⟨qR_E, qT_E, 5, qt_E, rfl, rfl, by decide, qu_E, (gTb_1 (i := 119) (by rfl) rfl), qk_E, qn_E, rfl, rfl, fun _ => rfl⟩
theorem qf_F_11 : gLk "GossipNodes$Flight" 11 1 0 := ⟨qR_F, qT_F, 4, rfl, rfl, by decide, qu_F, (gTb_1 (i := 75) (by rfl) rfl)⟩
theorem qp_F_11 : gLp "GossipNodes$Flight" 11 1 0 (.array (.object "GossipNodes$Message")) false := ⟨qR_F, qT_F, 4, qt_F, rfl, rfl, by decide, qu_F, (gTb_1 (i := 75) (by rfl) rfl), qk_F, qn_F, rfl, rfl, fun _ => rfl⟩
theorem qf_F_15 : gLk "GossipNodes$Flight" 15 1 1 := ⟨qR_F, qT_F, 4, rfl, rfl, by decide, qu_F, (gTb_1 (i := 77) (by rfl) rfl)⟩
theorem qp_F_15 : gLp "GossipNodes$Flight" 15 1 1 (.array (.object "GossipNodes$Message")) false := ⟨qR_F, qT_F, 4, qt_F, rfl, rfl, by decide, qu_F, (gTb_1 (i := 77) (by rfl) rfl), qk_F, qn_F, rfl, rfl, fun _ => rfl⟩
theorem qf_F_19 : gLk "GossipNodes$Flight" 19 1 2 := ⟨qR_F, qT_F, 4, rfl, rfl, by decide, qu_F, (gTb_1 (i := 79) (by rfl) rfl)⟩
theorem qp_F_19 : gLp "GossipNodes$Flight" 19 1 2 (.object "GossipNodes$Message") true := ⟨qR_F, qT_F, 4, qt_F, rfl, rfl, by decide, qu_F, (gTb_1 (i := 79) (by rfl) rfl), qk_F, qn_F, rfl, rfl, fun _ => rfl⟩
theorem qf_F_23 : gLk "GossipNodes$Flight" 23 1 3 := ⟨qR_F, qT_F, 4, rfl, rfl, by decide, qu_F, (gTb_1 (i := 80) (by rfl) rfl)⟩
theorem qp_F_23 : gLp "GossipNodes$Flight" 23 1 3 (.int) false := ⟨qR_F, qT_F, 4, qt_F, rfl, rfl, by decide, qu_F, (gTb_1 (i := 80) (by rfl) rfl), qk_F, qn_F, rfl, rfl, fun _ => rfl⟩
theorem qf_M_11 : gLk "GossipNodes$Message" 11 2 7 := ⟨qR_M, qT_M, 8, rfl, rfl, by decide, qu_M, (gTb_1 (i := 55) (by rfl) rfl)⟩
theorem qp_M_11 : gLp "GossipNodes$Message" 11 2 7 (.array (.int)) true := ⟨qR_M, qT_M, 8, qt_M, rfl, rfl, by decide, qu_M, (gTb_1 (i := 55) (by rfl) rfl), qk_M, qn_M, rfl, rfl, fun _ => rfl⟩
theorem qf_M_15 : gLk "GossipNodes$Message" 15 2 0 := ⟨qR_M, qT_M, 8, rfl, rfl, by decide, qu_M, (gTb_1 (i := 37) (by rfl) rfl)⟩
theorem qp_M_15 : gLp "GossipNodes$Message" 15 2 0 (.int) false := ⟨qR_M, qT_M, 8, qt_M, rfl, rfl, by decide, qu_M, (gTb_1 (i := 37) (by rfl) rfl), qk_M, qn_M, rfl, rfl, fun _ => rfl⟩
theorem qf_M_19 : gLk "GossipNodes$Message" 19 2 1 := ⟨qR_M, qT_M, 8, rfl, rfl, by decide, qu_M, (gTb_1 (i := 39) (by rfl) rfl)⟩
theorem qp_M_19 : gLp "GossipNodes$Message" 19 2 1 (.int) false := ⟨qR_M, qT_M, 8, qt_M, rfl, rfl, by decide, qu_M, (gTb_1 (i := 39) (by rfl) rfl), qk_M, qn_M, rfl, rfl, fun _ => rfl⟩
theorem qf_M_22 : gLk "GossipNodes$Message" 22 2 2 := ⟨qR_M, qT_M, 8, rfl, rfl, by decide, qu_M, (gTb_1 (i := 42) (by rfl) rfl)⟩
theorem qp_M_22 : gLp "GossipNodes$Message" 22 2 2 (.int) false := ⟨qR_M, qT_M, 8, qt_M, rfl, rfl, by decide, qu_M, (gTb_1 (i := 42) (by rfl) rfl), qk_M, qn_M, rfl, rfl, fun _ => rfl⟩
theorem qf_M_25 : gLk "GossipNodes$Message" 25 2 6 := ⟨qR_M, qT_M, 8, rfl, rfl, by decide, qu_M, (gTb_1 (i := 53) (by rfl) rfl)⟩
theorem qp_M_25 : gLp "GossipNodes$Message" 25 2 6 (.int) false := ⟨qR_M, qT_M, 8, qt_M, rfl, rfl, by decide, qu_M, (gTb_1 (i := 53) (by rfl) rfl), qk_M, qn_M, rfl, rfl, fun _ => rfl⟩
theorem qf_M_28 : gLk "GossipNodes$Message" 28 2 3 := ⟨qR_M, qT_M, 8, rfl, rfl, by decide, qu_M, (gTb_1 (i := 45) (by rfl) rfl)⟩
theorem qp_M_28 : gLp "GossipNodes$Message" 28 2 3 (.int) false := ⟨qR_M, qT_M, 8, qt_M, rfl, rfl, by decide, qu_M, (gTb_1 (i := 45) (by rfl) rfl), qk_M, qn_M, rfl, rfl, fun _ => rfl⟩
theorem qf_M_31 : gLk "GossipNodes$Message" 31 2 4 := ⟨qR_M, qT_M, 8, rfl, rfl, by decide, qu_M, (gTb_1 (i := 48) (by rfl) rfl)⟩
theorem qp_M_31 : gLp "GossipNodes$Message" 31 2 4 (.int) false := ⟨qR_M, qT_M, 8, qt_M, rfl, rfl, by decide, qu_M, (gTb_1 (i := 48) (by rfl) rfl), qk_M, qn_M, rfl, rfl, fun _ => rfl⟩
theorem qf_M_34 : gLk "GossipNodes$Message" 34 2 5 := ⟨qR_M, qT_M, 8, rfl, rfl, by decide, qu_M, (gTb_1 (i := 51) (by rfl) rfl)⟩
theorem qp_M_34 : gLp "GossipNodes$Message" 34 2 5 (.int) false := ⟨qR_M, qT_M, 8, qt_M, rfl, rfl, by decide, qu_M, (gTb_1 (i := 51) (by rfl) rfl), qk_M, qn_M, rfl, rfl, fun _ => rfl⟩
theorem qf_M_37 : gLk "GossipNodes$Message" 37 0 0 := ⟨qR_E, qT_E, 5, rfl, rfl, by decide, qu_E, (gTb_1 (i := 109) (by rfl) rfl)⟩
theorem qp_M_37 : gLp "GossipNodes$Message" 37 0 0 (.int) false := ⟨qR_E, qT_E, 5, qt_E, rfl, rfl, by decide, qu_E, (gTb_1 (i := 109) (by rfl) rfl), qk_E, qn_E, rfl, rfl, fun h => nomatch h⟩
theorem qf_M_42 : gLk "GossipNodes$Message" 42 0 1 := ⟨qR_E, qT_E, 5, rfl, rfl, by decide, qu_E, (gTb_1 (i := 113) (by rfl) rfl)⟩
theorem qp_M_42 : gLp "GossipNodes$Message" 42 0 1 (.int) false := ⟨qR_E, qT_E, 5, qt_E, rfl, rfl, by decide, qu_E, (gTb_1 (i := 113) (by rfl) rfl), qk_E, qn_E, rfl, rfl, fun h => nomatch h⟩
theorem qf_N_13 : gLk "GossipNodes$Node" 13 3 4 := ⟨qR_N, qT_N, 18, rfl, rfl, by decide, qu_N, (gTb_1 (i := 159) (by rfl) rfl)⟩
theorem qp_N_13 : gLp "GossipNodes$Node" 13 3 4 (.array (.object "GossipNodes$Relay")) true := ⟨qR_N, qT_N, 18, qt_N, rfl, rfl, by decide, qu_N, (gTb_1 (i := 159) (by rfl) rfl), qk_N, qn_N, rfl, rfl, fun _ => rfl⟩
theorem qf_N_17 : gLk "GossipNodes$Node" 17 3 0 := ⟨qR_N, qT_N, 18, rfl, rfl, by decide, qu_N, (gTb_1 (i := 154) (by rfl) rfl)⟩
theorem qp_N_17 : gLp "GossipNodes$Node" 17 3 0 (.int) true := ⟨qR_N, qT_N, 18, qt_N, rfl, rfl, by decide, qu_N, (gTb_1 (i := 154) (by rfl) rfl), qk_N, qn_N, rfl, rfl, fun _ => rfl⟩
theorem qf_N_21 : gLk "GossipNodes$Node" 21 3 1 := ⟨qR_N, qT_N, 18, rfl, rfl, by decide, qu_N, (gTb_1 (i := 155) (by rfl) rfl)⟩
theorem qp_N_21 : gLp "GossipNodes$Node" 21 3 1 (.int) true := ⟨qR_N, qT_N, 18, qt_N, rfl, rfl, by decide, qu_N, (gTb_1 (i := 155) (by rfl) rfl), qk_N, qn_N, rfl, rfl, fun _ => rfl⟩
theorem qf_N_24 : gLk "GossipNodes$Node" 24 3 2 := ⟨qR_N, qT_N, 18, rfl, rfl, by decide, qu_N, (gTb_1 (i := 156) (by rfl) rfl)⟩
theorem qp_N_24 : gLp "GossipNodes$Node" 24 3 2 (.object "GossipNodes$Flight") true := ⟨qR_N, qT_N, 18, qt_N, rfl, rfl, by decide, qu_N, (gTb_1 (i := 156) (by rfl) rfl), qk_N, qn_N, rfl, rfl, fun _ => rfl⟩
theorem qf_N_30 : gLk "GossipNodes$Node" 30 3 3 := ⟨qR_N, qT_N, 18, rfl, rfl, by decide, qu_N, (gTb_1 (i := 157) (by rfl) rfl)⟩
theorem qp_N_30 : gLp "GossipNodes$Node" 30 3 3 (.array (.object "GossipNodes$Entry")) true := ⟨qR_N, qT_N, 18, qt_N, rfl, rfl, by decide, qu_N, (gTb_1 (i := 157) (by rfl) rfl), qk_N, qn_N, rfl, rfl, fun _ => rfl⟩
theorem qf_N_43 : gLk "GossipNodes$Node" 43 3 5 := ⟨qR_N, qT_N, 18, rfl, rfl, by decide, qu_N, (gTb_1 (i := 161) (by rfl) rfl)⟩
theorem qp_N_43 : gLp "GossipNodes$Node" 43 3 5 (.boolean) false := ⟨qR_N, qT_N, 18, qt_N, rfl, rfl, by decide, qu_N, (gTb_1 (i := 161) (by rfl) rfl), qk_N, qn_N, rfl, rfl, fun _ => rfl⟩
theorem qf_N_47 : gLk "GossipNodes$Node" 47 3 6 := ⟨qR_N, qT_N, 18, rfl, rfl, by decide, qu_N, (gTb_1 (i := 162) (by rfl) rfl)⟩
theorem qp_N_47 : gLp "GossipNodes$Node" 47 3 6 (.int) false := ⟨qR_N, qT_N, 18, qt_N, rfl, rfl, by decide, qu_N, (gTb_1 (i := 162) (by rfl) rfl), qk_N, qn_N, rfl, rfl, fun _ => rfl⟩
theorem qf_N_50 : gLk "GossipNodes$Node" 50 3 7 := ⟨qR_N, qT_N, 18, rfl, rfl, by decide, qu_N, (gTb_1 (i := 163) (by rfl) rfl)⟩
theorem qp_N_50 : gLp "GossipNodes$Node" 50 3 7 (.int) false := ⟨qR_N, qT_N, 18, qt_N, rfl, rfl, by decide, qu_N, (gTb_1 (i := 163) (by rfl) rfl), qk_N, qn_N, rfl, rfl, fun _ => rfl⟩
theorem qf_N_53 : gLk "GossipNodes$Node" 53 3 8 := ⟨qR_N, qT_N, 18, rfl, rfl, by decide, qu_N, (gTb_1 (i := 164) (by rfl) rfl)⟩
theorem qp_N_53 : gLp "GossipNodes$Node" 53 3 8 (.int) false := ⟨qR_N, qT_N, 18, qt_N, rfl, rfl, by decide, qu_N, (gTb_1 (i := 164) (by rfl) rfl), qk_N, qn_N, rfl, rfl, fun _ => rfl⟩
theorem qf_N_56 : gLk "GossipNodes$Node" 56 3 9 := ⟨qR_N, qT_N, 18, rfl, rfl, by decide, qu_N, (gTb_1 (i := 165) (by rfl) rfl)⟩
theorem qp_N_56 : gLp "GossipNodes$Node" 56 3 9 (.int) false := ⟨qR_N, qT_N, 18, qt_N, rfl, rfl, by decide, qu_N, (gTb_1 (i := 165) (by rfl) rfl), qk_N, qn_N, rfl, rfl, fun _ => rfl⟩
theorem qf_N_59 : gLk "GossipNodes$Node" 59 3 10 := ⟨qR_N, qT_N, 18, rfl, rfl, by decide, qu_N, (gTb_1 (i := 166) (by rfl) rfl)⟩
theorem qp_N_59 : gLp "GossipNodes$Node" 59 3 10 (.int) false := ⟨qR_N, qT_N, 18, qt_N, rfl, rfl, by decide, qu_N, (gTb_1 (i := 166) (by rfl) rfl), qk_N, qn_N, rfl, rfl, fun _ => rfl⟩
theorem qf_N_62 : gLk "GossipNodes$Node" 62 3 11 := ⟨qR_N, qT_N, 18, rfl, rfl, by decide, qu_N, (gTb_1 (i := 167) (by rfl) rfl)⟩
theorem qp_N_62 : gLp "GossipNodes$Node" 62 3 11 (.int) false := ⟨qR_N, qT_N, 18, qt_N, rfl, rfl, by decide, qu_N, (gTb_1 (i := 167) (by rfl) rfl), qk_N, qn_N, rfl, rfl, fun _ => rfl⟩
theorem qf_N_65 : gLk "GossipNodes$Node" 65 3 12 := ⟨qR_N, qT_N, 18, rfl, rfl, by decide, qu_N, (gTb_1 (i := 168) (by rfl) rfl)⟩
theorem qp_N_65 : gLp "GossipNodes$Node" 65 3 12 (.int) false := ⟨qR_N, qT_N, 18, qt_N, rfl, rfl, by decide, qu_N, (gTb_1 (i := 168) (by rfl) rfl), qk_N, qn_N, rfl, rfl, fun _ => rfl⟩
theorem qf_N_68 : gLk "GossipNodes$Node" 68 3 13 := ⟨qR_N, qT_N, 18, rfl, rfl, by decide, qu_N, (gTb_1 (i := 169) (by rfl) rfl)⟩
theorem qp_N_68 : gLp "GossipNodes$Node" 68 3 13 (.int) false := ⟨qR_N, qT_N, 18, qt_N, rfl, rfl, by decide, qu_N, (gTb_1 (i := 169) (by rfl) rfl), qk_N, qn_N, rfl, rfl, fun _ => rfl⟩
theorem qf_N_71 : gLk "GossipNodes$Node" 71 3 14 := ⟨qR_N, qT_N, 18, rfl, rfl, by decide, qu_N, (gTb_1 (i := 170) (by rfl) rfl)⟩
theorem qp_N_71 : gLp "GossipNodes$Node" 71 3 14 (.boolean) false := ⟨qR_N, qT_N, 18, qt_N, rfl, rfl, by decide, qu_N, (gTb_1 (i := 170) (by rfl) rfl), qk_N, qn_N, rfl, rfl, fun _ => rfl⟩
theorem qf_N_74 : gLk "GossipNodes$Node" 74 3 15 := ⟨qR_N, qT_N, 18, rfl, rfl, by decide, qu_N, (gTb_1 (i := 171) (by rfl) rfl)⟩
theorem qp_N_74 : gLp "GossipNodes$Node" 74 3 15 (.int) false := ⟨qR_N, qT_N, 18, qt_N, rfl, rfl, by decide, qu_N, (gTb_1 (i := 171) (by rfl) rfl), qk_N, qn_N, rfl, rfl, fun _ => rfl⟩
theorem qf_N_77 : gLk "GossipNodes$Node" 77 3 16 := ⟨qR_N, qT_N, 18, rfl, rfl, by decide, qu_N, (gTb_1 (i := 172) (by rfl) rfl)⟩
theorem qp_N_77 : gLp "GossipNodes$Node" 77 3 16 (.int) false := ⟨qR_N, qT_N, 18, qt_N, rfl, rfl, by decide, qu_N, (gTb_1 (i := 172) (by rfl) rfl), qk_N, qn_N, rfl, rfl, fun _ => rfl⟩
theorem qf_N_80 : gLk "GossipNodes$Node" 80 3 17 := ⟨qR_N, qT_N, 18, rfl, rfl, by decide, qu_N, (gTb_1 (i := 173) (by rfl) rfl)⟩
theorem qp_N_80 : gLp "GossipNodes$Node" 80 3 17 (.int) false := ⟨qR_N, qT_N, 18, qt_N, rfl, rfl, by decide, qu_N, (gTb_1 (i := 173) (by rfl) rfl), qk_N, qn_N, rfl, rfl, fun _ => rfl⟩
theorem qf_N_83 : gLk "GossipNodes$Node" 83 0 1 := ⟨qR_E, qT_E, 5, rfl, rfl, by decide, qu_E, (gTb_1 (i := 112) (by rfl) rfl)⟩
theorem qp_N_83 : gLp "GossipNodes$Node" 83 0 1 (.int) false := ⟨qR_E, qT_E, 5, qt_E, rfl, rfl, by decide, qu_E, (gTb_1 (i := 112) (by rfl) rfl), qk_E, qn_E, rfl, rfl, fun h => nomatch h⟩
theorem qf_N_86 : gLk "GossipNodes$Node" 86 0 0 := ⟨qR_E, qT_E, 5, rfl, rfl, by decide, qu_E, (gTb_1 (i := 108) (by rfl) rfl)⟩
theorem qp_N_86 : gLp "GossipNodes$Node" 86 0 0 (.int) false := ⟨qR_E, qT_E, 5, qt_E, rfl, rfl, by decide, qu_E, (gTb_1 (i := 108) (by rfl) rfl), qk_E, qn_E, rfl, rfl, fun h => nomatch h⟩
theorem qf_N_122 : gLk "GossipNodes$Node" 122 0 4 := ⟨qR_E, qT_E, 5, rfl, rfl, by decide, qu_E, (gTb_1 (i := 120) (by rfl) rfl)⟩
theorem qp_N_122 : gLp "GossipNodes$Node" 122 0 4 (.int) false := ⟨qR_E, qT_E, 5, qt_E, rfl, rfl, by decide, qu_E, (gTb_1 (i := 120) (by rfl) rfl), qk_E, qn_E, rfl, rfl, fun h => nomatch h⟩
theorem qf_N_125 : gLk "GossipNodes$Node" 125 2 6 := ⟨qR_M, qT_M, 8, rfl, rfl, by decide, qu_M, (gTb_1 (i := 54) (by rfl) rfl)⟩
theorem qp_N_125 : gLp "GossipNodes$Node" 125 2 6 (.int) false := ⟨qR_M, qT_M, 8, qt_M, rfl, rfl, by decide, qu_M, (gTb_1 (i := 54) (by rfl) rfl), qk_M, qn_M, rfl, rfl, fun h => nomatch h⟩
theorem qf_N_128 : gLk "GossipNodes$Node" 128 2 7 := ⟨qR_M, qT_M, 8, rfl, rfl, by decide, qu_M, (gTb_1 (i := 56) (by rfl) rfl)⟩
theorem qf_N_132 : gLk "GossipNodes$Node" 132 2 1 := ⟨qR_M, qT_M, 8, rfl, rfl, by decide, qu_M, (gTb_1 (i := 40) (by rfl) rfl)⟩
theorem qp_N_132 : gLp "GossipNodes$Node" 132 2 1 (.int) false := ⟨qR_M, qT_M, 8, qt_M, rfl, rfl, by decide, qu_M, (gTb_1 (i := 40) (by rfl) rfl), qk_M, qn_M, rfl, rfl, fun h => nomatch h⟩
theorem qf_N_138 : gLk "GossipNodes$Node" 138 2 0 := ⟨qR_M, qT_M, 8, rfl, rfl, by decide, qu_M, (gTb_1 (i := 38) (by rfl) rfl)⟩
theorem qp_N_138 : gLp "GossipNodes$Node" 138 2 0 (.int) false := ⟨qR_M, qT_M, 8, qt_M, rfl, rfl, by decide, qu_M, (gTb_1 (i := 38) (by rfl) rfl), qk_M, qn_M, rfl, rfl, fun h => nomatch h⟩
theorem qf_N_141 : gLk "GossipNodes$Node" 141 2 3 := ⟨qR_M, qT_M, 8, rfl, rfl, by decide, qu_M, (gTb_1 (i := 46) (by rfl) rfl)⟩
theorem qp_N_141 : gLp "GossipNodes$Node" 141 2 3 (.int) false := ⟨qR_M, qT_M, 8, qt_M, rfl, rfl, by decide, qu_M, (gTb_1 (i := 46) (by rfl) rfl), qk_M, qn_M, rfl, rfl, fun h => nomatch h⟩
theorem qf_N_144 : gLk "GossipNodes$Node" 144 2 4 := ⟨qR_M, qT_M, 8, rfl, rfl, by decide, qu_M, (gTb_1 (i := 49) (by rfl) rfl)⟩
theorem qp_N_144 : gLp "GossipNodes$Node" 144 2 4 (.int) false := ⟨qR_M, qT_M, 8, qt_M, rfl, rfl, by decide, qu_M, (gTb_1 (i := 49) (by rfl) rfl), qk_M, qn_M, rfl, rfl, fun h => nomatch h⟩
theorem qf_N_147 : gLk "GossipNodes$Node" 147 2 5 := ⟨qR_M, qT_M, 8, rfl, rfl, by decide, qu_M, (gTb_1 (i := 52) (by rfl) rfl)⟩
theorem qp_N_147 : gLp "GossipNodes$Node" 147 2 5 (.int) false := ⟨qR_M, qT_M, 8, qt_M, rfl, rfl, by decide, qu_M, (gTb_1 (i := 52) (by rfl) rfl), qk_M, qn_M, rfl, rfl, fun h => nomatch h⟩
theorem qf_N_174 : gLk "GossipNodes$Node" 174 0 3 := ⟨qR_E, qT_E, 5, rfl, rfl, by decide, qu_E, (gTb_1 (i := 118) (by rfl) rfl)⟩
theorem qp_N_174 : gLp "GossipNodes$Node" 174 0 3 (.int) false := ⟨qR_E, qT_E, 5, qt_E, rfl, rfl, by decide, qu_E, (gTb_1 (i := 118) (by rfl) rfl), qk_E, qn_E, rfl, rfl, fun h => nomatch h⟩
theorem qf_N_196 : gLk "GossipNodes$Node" 196 4 0 := ⟨qR_R, qT_R, 4, rfl, rfl, by decide, qu_R, (gTb_1 (i := 139) (by rfl) rfl)⟩
theorem qp_N_196 : gLp "GossipNodes$Node" 196 4 0 (.int) false := ⟨qR_R, qT_R, 4, qt_R, rfl, rfl, by decide, qu_R, (gTb_1 (i := 139) (by rfl) rfl), qk_R, qn_R, rfl, rfl, fun h => nomatch h⟩
theorem qf_N_197 : gLk "GossipNodes$Node" 197 4 1 := ⟨qR_R, qT_R, 4, rfl, rfl, by decide, qu_R, (gTb_1 (i := 141) (by rfl) rfl)⟩
theorem qp_N_197 : gLp "GossipNodes$Node" 197 4 1 (.int) false := ⟨qR_R, qT_R, 4, qt_R, rfl, rfl, by decide, qu_R, (gTb_1 (i := 141) (by rfl) rfl), qk_R, qn_R, rfl, rfl, fun h => nomatch h⟩
theorem qf_N_198 : gLk "GossipNodes$Node" 198 4 2 := ⟨qR_R, qT_R, 4, rfl, rfl, by decide, qu_R, (gTb_1 (i := 143) (by rfl) rfl)⟩
theorem qp_N_198 : gLp "GossipNodes$Node" 198 4 2 (.int) false := ⟨qR_R, qT_R, 4, qt_R, rfl, rfl, by decide, qu_R, (gTb_1 (i := 143) (by rfl) rfl), qk_R, qn_R, rfl, rfl, fun h => nomatch h⟩
theorem qf_N_199 : gLk "GossipNodes$Node" 199 4 3 := ⟨qR_R, qT_R, 4, rfl, rfl, by decide, qu_R, (gTb_1 (i := 144) (by rfl) rfl)⟩
theorem qp_N_199 : gLp "GossipNodes$Node" 199 4 3 (.int) false := ⟨qR_R, qT_R, 4, qt_R, rfl, rfl, by decide, qu_R, (gTb_1 (i := 144) (by rfl) rfl), qk_R, qn_R, rfl, rfl, fun h => nomatch h⟩
theorem qf_N_222 : gLk "GossipNodes$Node" 222 0 2 := ⟨qR_E, qT_E, 5, rfl, rfl, by decide, qu_E, (gTb_1 (i := 116) (by rfl) rfl)⟩
theorem qp_N_222 : gLp "GossipNodes$Node" 222 0 2 (.int) false := ⟨qR_E, qT_E, 5, qt_E, rfl, rfl, by decide, qu_E, (gTb_1 (i := 116) (by rfl) rfl), qk_E, qn_E, rfl, rfl, fun h => nomatch h⟩
theorem qf_R_7 : gLk "GossipNodes$Relay" 7 4 0 := ⟨qR_R, qT_R, 4, rfl, rfl, by decide, qu_R, (gTb_1 (i := 138) (by rfl) rfl)⟩
theorem qp_R_7 : gLp "GossipNodes$Relay" 7 4 0 (.int) false := ⟨qR_R, qT_R, 4, qt_R, rfl, rfl, by decide, qu_R, (gTb_1 (i := 138) (by rfl) rfl), qk_R, qn_R, rfl, rfl, fun _ => rfl⟩
theorem qf_R_13 : gLk "GossipNodes$Relay" 13 2 3 := ⟨qR_M, qT_M, 8, rfl, rfl, by decide, qu_M, (gTb_1 (i := 44) (by rfl) rfl)⟩
theorem qp_R_13 : gLp "GossipNodes$Relay" 13 2 3 (.int) false := ⟨qR_M, qT_M, 8, qt_M, rfl, rfl, by decide, qu_M, (gTb_1 (i := 44) (by rfl) rfl), qk_M, qn_M, rfl, rfl, fun h => nomatch h⟩
theorem qf_R_16 : gLk "GossipNodes$Relay" 16 4 1 := ⟨qR_R, qT_R, 4, rfl, rfl, by decide, qu_R, (gTb_1 (i := 140) (by rfl) rfl)⟩
theorem qp_R_16 : gLp "GossipNodes$Relay" 16 4 1 (.int) false := ⟨qR_R, qT_R, 4, qt_R, rfl, rfl, by decide, qu_R, (gTb_1 (i := 140) (by rfl) rfl), qk_R, qn_R, rfl, rfl, fun _ => rfl⟩
theorem qf_R_19 : gLk "GossipNodes$Relay" 19 2 4 := ⟨qR_M, qT_M, 8, rfl, rfl, by decide, qu_M, (gTb_1 (i := 47) (by rfl) rfl)⟩
theorem qp_R_19 : gLp "GossipNodes$Relay" 19 2 4 (.int) false := ⟨qR_M, qT_M, 8, qt_M, rfl, rfl, by decide, qu_M, (gTb_1 (i := 47) (by rfl) rfl), qk_M, qn_M, rfl, rfl, fun h => nomatch h⟩
theorem qf_R_20 : gLk "GossipNodes$Relay" 20 4 2 := ⟨qR_R, qT_R, 4, rfl, rfl, by decide, qu_R, (gTb_1 (i := 142) (by rfl) rfl)⟩
theorem qp_R_20 : gLp "GossipNodes$Relay" 20 4 2 (.int) false := ⟨qR_R, qT_R, 4, qt_R, rfl, rfl, by decide, qu_R, (gTb_1 (i := 142) (by rfl) rfl), qk_R, qn_R, rfl, rfl, fun _ => rfl⟩
theorem qf_R_23 : gLk "GossipNodes$Relay" 23 2 5 := ⟨qR_M, qT_M, 8, rfl, rfl, by decide, qu_M, (gTb_1 (i := 50) (by rfl) rfl)⟩
theorem qp_R_23 : gLp "GossipNodes$Relay" 23 2 5 (.int) false := ⟨qR_M, qT_M, 8, qt_M, rfl, rfl, by decide, qu_M, (gTb_1 (i := 50) (by rfl) rfl), qk_M, qn_M, rfl, rfl, fun h => nomatch h⟩
theorem qf_Z_7 : gLk "GossipNodesModel" 7 6 3 := ⟨qR_Z, qT_Z, 28, rfl, rfl, by decide, qu_Z, (gTb_3 (i := 15) (by rfl) rfl)⟩
theorem qp_Z_7 : gLp "GossipNodesModel" 7 6 3 (.array (.int)) false := ⟨qR_Z, qT_Z, 28, qt_Z, rfl, rfl, by decide, qu_Z, (gTb_3 (i := 15) (by rfl) rfl), qk_Z, qn_Z, rfl, rfl, fun _ => rfl⟩
theorem qf_Z_13 : gLk "GossipNodesModel" 13 6 4 := ⟨qR_Z, qT_Z, 28, rfl, rfl, by decide, qu_Z, (gTb_3 (i := 16) (by rfl) rfl)⟩
theorem qp_Z_13 : gLp "GossipNodesModel" 13 6 4 (.array (.int)) false := ⟨qR_Z, qT_Z, 28, qt_Z, rfl, rfl, by decide, qu_Z, (gTb_3 (i := 16) (by rfl) rfl), qk_Z, qn_Z, rfl, rfl, fun _ => rfl⟩
theorem qf_Z_16 : gLk "GossipNodesModel" 16 6 5 := ⟨qR_Z, qT_Z, 28, rfl, rfl, by decide, qu_Z, (gTb_3 (i := 17) (by rfl) rfl)⟩
theorem qp_Z_16 : gLp "GossipNodesModel" 16 6 5 (.array (.boolean)) false := ⟨qR_Z, qT_Z, 28, qt_Z, rfl, rfl, by decide, qu_Z, (gTb_3 (i := 17) (by rfl) rfl), qk_Z, qn_Z, rfl, rfl, fun _ => rfl⟩
theorem qf_Z_20 : gLk "GossipNodesModel" 20 6 6 := ⟨qR_Z, qT_Z, 28, rfl, rfl, by decide, qu_Z, (gTb_3 (i := 18) (by rfl) rfl)⟩
theorem qp_Z_20 : gLp "GossipNodesModel" 20 6 6 (.array (.boolean)) false := ⟨qR_Z, qT_Z, 28, qt_Z, rfl, rfl, by decide, qu_Z, (gTb_3 (i := 18) (by rfl) rfl), qk_Z, qn_Z, rfl, rfl, fun _ => rfl⟩
theorem qf_Z_23 : gLk "GossipNodesModel" 23 6 7 := ⟨qR_Z, qT_Z, 28, rfl, rfl, by decide, qu_Z, (gTb_3 (i := 19) (by rfl) rfl)⟩
theorem qp_Z_23 : gLp "GossipNodesModel" 23 6 7 (.array (.int)) false := ⟨qR_Z, qT_Z, 28, qt_Z, rfl, rfl, by decide, qu_Z, (gTb_3 (i := 19) (by rfl) rfl), qk_Z, qn_Z, rfl, rfl, fun _ => rfl⟩
theorem qf_Z_26 : gLk "GossipNodesModel" 26 6 8 := ⟨qR_Z, qT_Z, 28, rfl, rfl, by decide, qu_Z, (gTb_3 (i := 20) (by rfl) rfl)⟩
theorem qp_Z_26 : gLp "GossipNodesModel" 26 6 8 (.array (.int)) false := ⟨qR_Z, qT_Z, 28, qt_Z, rfl, rfl, by decide, qu_Z, (gTb_3 (i := 20) (by rfl) rfl), qk_Z, qn_Z, rfl, rfl, fun _ => rfl⟩
theorem qf_Z_29 : gLk "GossipNodesModel" 29 6 9 := ⟨qR_Z, qT_Z, 28, rfl, rfl, by decide, qu_Z, (gTb_3 (i := 21) (by rfl) rfl)⟩
theorem qp_Z_29 : gLp "GossipNodesModel" 29 6 9 (.array (.int)) false := ⟨qR_Z, qT_Z, 28, qt_Z, rfl, rfl, by decide, qu_Z, (gTb_3 (i := 21) (by rfl) rfl), qk_Z, qn_Z, rfl, rfl, fun _ => rfl⟩
theorem qf_Z_32 : gLk "GossipNodesModel" 32 6 10 := ⟨qR_Z, qT_Z, 28, rfl, rfl, by decide, qu_Z, (gTb_3 (i := 22) (by rfl) rfl)⟩
theorem qp_Z_32 : gLp "GossipNodesModel" 32 6 10 (.array (.int)) false := ⟨qR_Z, qT_Z, 28, qt_Z, rfl, rfl, by decide, qu_Z, (gTb_3 (i := 22) (by rfl) rfl), qk_Z, qn_Z, rfl, rfl, fun _ => rfl⟩
theorem qf_Z_35 : gLk "GossipNodesModel" 35 6 11 := ⟨qR_Z, qT_Z, 28, rfl, rfl, by decide, qu_Z, (gTb_3 (i := 23) (by rfl) rfl)⟩
theorem qp_Z_35 : gLp "GossipNodesModel" 35 6 11 (.array (.int)) false := ⟨qR_Z, qT_Z, 28, qt_Z, rfl, rfl, by decide, qu_Z, (gTb_3 (i := 23) (by rfl) rfl), qk_Z, qn_Z, rfl, rfl, fun _ => rfl⟩
theorem qf_Z_38 : gLk "GossipNodesModel" 38 6 12 := ⟨qR_Z, qT_Z, 28, rfl, rfl, by decide, qu_Z, (gTb_3 (i := 24) (by rfl) rfl)⟩
theorem qp_Z_38 : gLp "GossipNodesModel" 38 6 12 (.array (.int)) false := ⟨qR_Z, qT_Z, 28, qt_Z, rfl, rfl, by decide, qu_Z, (gTb_3 (i := 24) (by rfl) rfl), qk_Z, qn_Z, rfl, rfl, fun _ => rfl⟩
theorem qf_Z_41 : gLk "GossipNodesModel" 41 6 13 := ⟨qR_Z, qT_Z, 28, rfl, rfl, by decide, qu_Z, (gTb_3 (i := 25) (by rfl) rfl)⟩
theorem qp_Z_41 : gLp "GossipNodesModel" 41 6 13 (.array (.int)) false := ⟨qR_Z, qT_Z, 28, qt_Z, rfl, rfl, by decide, qu_Z, (gTb_3 (i := 25) (by rfl) rfl), qk_Z, qn_Z, rfl, rfl, fun _ => rfl⟩
theorem qf_Z_44 : gLk "GossipNodesModel" 44 6 14 := ⟨qR_Z, qT_Z, 28, rfl, rfl, by decide, qu_Z, (gTb_3 (i := 26) (by rfl) rfl)⟩
theorem qp_Z_44 : gLp "GossipNodesModel" 44 6 14 (.array (.int)) false := ⟨qR_Z, qT_Z, 28, qt_Z, rfl, rfl, by decide, qu_Z, (gTb_3 (i := 26) (by rfl) rfl), qk_Z, qn_Z, rfl, rfl, fun _ => rfl⟩
theorem qf_Z_47 : gLk "GossipNodesModel" 47 6 15 := ⟨qR_Z, qT_Z, 28, rfl, rfl, by decide, qu_Z, (gTb_3 (i := 27) (by rfl) rfl)⟩
theorem qp_Z_47 : gLp "GossipNodesModel" 47 6 15 (.array (.int)) false := ⟨qR_Z, qT_Z, 28, qt_Z, rfl, rfl, by decide, qu_Z, (gTb_3 (i := 27) (by rfl) rfl), qk_Z, qn_Z, rfl, rfl, fun _ => rfl⟩
theorem qf_Z_50 : gLk "GossipNodesModel" 50 6 16 := ⟨qR_Z, qT_Z, 28, rfl, rfl, by decide, qu_Z, (gTb_3 (i := 28) (by rfl) rfl)⟩
theorem qp_Z_50 : gLp "GossipNodesModel" 50 6 16 (.array (.int)) false := ⟨qR_Z, qT_Z, 28, qt_Z, rfl, rfl, by decide, qu_Z, (gTb_3 (i := 28) (by rfl) rfl), qk_Z, qn_Z, rfl, rfl, fun _ => rfl⟩
theorem qf_Z_53 : gLk "GossipNodesModel" 53 6 17 := ⟨qR_Z, qT_Z, 28, rfl, rfl, by decide, qu_Z, (gTb_3 (i := 29) (by rfl) rfl)⟩
theorem qp_Z_53 : gLp "GossipNodesModel" 53 6 17 (.array (.int)) false := ⟨qR_Z, qT_Z, 28, qt_Z, rfl, rfl, by decide, qu_Z, (gTb_3 (i := 29) (by rfl) rfl), qk_Z, qn_Z, rfl, rfl, fun _ => rfl⟩
theorem qf_Z_56 : gLk "GossipNodesModel" 56 6 18 := ⟨qR_Z, qT_Z, 28, rfl, rfl, by decide, qu_Z, (gTb_3 (i := 30) (by rfl) rfl)⟩
theorem qp_Z_56 : gLp "GossipNodesModel" 56 6 18 (.array (.boolean)) false := ⟨qR_Z, qT_Z, 28, qt_Z, rfl, rfl, by decide, qu_Z, (gTb_3 (i := 30) (by rfl) rfl), qk_Z, qn_Z, rfl, rfl, fun _ => rfl⟩
theorem qf_Z_59 : gLk "GossipNodesModel" 59 6 19 := ⟨qR_Z, qT_Z, 28, rfl, rfl, by decide, qu_Z, (gTb_3 (i := 31) (by rfl) rfl)⟩
theorem qp_Z_59 : gLp "GossipNodesModel" 59 6 19 (.array (.int)) false := ⟨qR_Z, qT_Z, 28, qt_Z, rfl, rfl, by decide, qu_Z, (gTb_3 (i := 31) (by rfl) rfl), qk_Z, qn_Z, rfl, rfl, fun _ => rfl⟩
theorem qf_Z_62 : gLk "GossipNodesModel" 62 6 20 := ⟨qR_Z, qT_Z, 28, rfl, rfl, by decide, qu_Z, (gTb_3 (i := 32) (by rfl) rfl)⟩
theorem qp_Z_62 : gLp "GossipNodesModel" 62 6 20 (.array (.int)) false := ⟨qR_Z, qT_Z, 28, qt_Z, rfl, rfl, by decide, qu_Z, (gTb_3 (i := 32) (by rfl) rfl), qk_Z, qn_Z, rfl, rfl, fun _ => rfl⟩
theorem qf_Z_65 : gLk "GossipNodesModel" 65 6 21 := ⟨qR_Z, qT_Z, 28, rfl, rfl, by decide, qu_Z, (gTb_3 (i := 33) (by rfl) rfl)⟩
theorem qp_Z_65 : gLp "GossipNodesModel" 65 6 21 (.array (.boolean)) false := ⟨qR_Z, qT_Z, 28, qt_Z, rfl, rfl, by decide, qu_Z, (gTb_3 (i := 33) (by rfl) rfl), qk_Z, qn_Z, rfl, rfl, fun _ => rfl⟩
theorem qf_Z_68 : gLk "GossipNodesModel" 68 6 22 := ⟨qR_Z, qT_Z, 28, rfl, rfl, by decide, qu_Z, (gTb_3 (i := 34) (by rfl) rfl)⟩
theorem qp_Z_68 : gLp "GossipNodesModel" 68 6 22 (.array (.int)) false := ⟨qR_Z, qT_Z, 28, qt_Z, rfl, rfl, by decide, qu_Z, (gTb_3 (i := 34) (by rfl) rfl), qk_Z, qn_Z, rfl, rfl, fun _ => rfl⟩
theorem qf_Z_71 : gLk "GossipNodesModel" 71 6 23 := ⟨qR_Z, qT_Z, 28, rfl, rfl, by decide, qu_Z, (gTb_3 (i := 35) (by rfl) rfl)⟩
theorem qp_Z_71 : gLp "GossipNodesModel" 71 6 23 (.array (.int)) false := ⟨qR_Z, qT_Z, 28, qt_Z, rfl, rfl, by decide, qu_Z, (gTb_3 (i := 35) (by rfl) rfl), qk_Z, qn_Z, rfl, rfl, fun _ => rfl⟩
theorem qf_Z_74 : gLk "GossipNodesModel" 74 6 24 := ⟨qR_Z, qT_Z, 28, rfl, rfl, by decide, qu_Z, (gTb_3 (i := 36) (by rfl) rfl)⟩
theorem qp_Z_74 : gLp "GossipNodesModel" 74 6 24 (.array (.int)) false := ⟨qR_Z, qT_Z, 28, qt_Z, rfl, rfl, by decide, qu_Z, (gTb_3 (i := 36) (by rfl) rfl), qk_Z, qn_Z, rfl, rfl, fun _ => rfl⟩
theorem qf_Z_77 : gLk "GossipNodesModel" 77 6 25 := ⟨qR_Z, qT_Z, 28, rfl, rfl, by decide, qu_Z, (gTb_3 (i := 37) (by rfl) rfl)⟩
theorem qp_Z_77 : gLp "GossipNodesModel" 77 6 25 (.array (.int)) false := ⟨qR_Z, qT_Z, 28, qt_Z, rfl, rfl, by decide, qu_Z, (gTb_3 (i := 37) (by rfl) rfl), qk_Z, qn_Z, rfl, rfl, fun _ => rfl⟩
theorem qf_Z_80 : gLk "GossipNodesModel" 80 6 26 := ⟨qR_Z, qT_Z, 28, rfl, rfl, by decide, qu_Z, (gTb_3 (i := 38) (by rfl) rfl)⟩
theorem qp_Z_80 : gLp "GossipNodesModel" 80 6 26 (.array (.int)) false := ⟨qR_Z, qT_Z, 28, qt_Z, rfl, rfl, by decide, qu_Z, (gTb_3 (i := 38) (by rfl) rfl), qk_Z, qn_Z, rfl, rfl, fun _ => rfl⟩
theorem qf_Z_83 : gLk "GossipNodesModel" 83 6 27 := ⟨qR_Z, qT_Z, 28, rfl, rfl, by decide, qu_Z, (gTb_3 (i := 39) (by rfl) rfl)⟩
theorem qp_Z_83 : gLp "GossipNodesModel" 83 6 27 (.array (.int)) false := ⟨qR_Z, qT_Z, 28, qt_Z, rfl, rfl, by decide, qu_Z, (gTb_3 (i := 39) (by rfl) rfl), qk_Z, qn_Z, rfl, rfl, fun _ => rfl⟩
theorem qf_Z_86 : gLk "GossipNodesModel" 86 6 0 := ⟨qR_Z, qT_Z, 28, rfl, rfl, by decide, qu_Z, (gTb_3 (i := 12) (by rfl) rfl)⟩
theorem qp_Z_86 : gLp "GossipNodesModel" 86 6 0 (.int) false := ⟨qR_Z, qT_Z, 28, qt_Z, rfl, rfl, by decide, qu_Z, (gTb_3 (i := 12) (by rfl) rfl), qk_Z, qn_Z, rfl, rfl, fun _ => rfl⟩
theorem qf_Z_109 : gLk "GossipNodesModel" 109 6 2 := ⟨qR_Z, qT_Z, 28, rfl, rfl, by decide, qu_Z, (gTb_3 (i := 14) (by rfl) rfl)⟩
theorem qp_Z_109 : gLp "GossipNodesModel" 109 6 2 (.int) false := ⟨qR_Z, qT_Z, 28, qt_Z, rfl, rfl, by decide, qu_Z, (gTb_3 (i := 14) (by rfl) rfl), qk_Z, qn_Z, rfl, rfl, fun _ => rfl⟩
theorem qf_Z_112 : gLk "GossipNodesModel" 112 6 1 := ⟨qR_Z, qT_Z, 28, rfl, rfl, by decide, qu_Z, (gTb_3 (i := 13) (by rfl) rfl)⟩
theorem qp_Z_112 : gLp "GossipNodesModel" 112 6 1 (.int) false := ⟨qR_Z, qT_Z, 28, qt_Z, rfl, rfl, by decide, qu_Z, (gTb_3 (i := 13) (by rfl) rfl), qk_Z, qn_Z, rfl, rfl, fun _ => rfl⟩
theorem qa_G_24 : gLi "GossipNodes" 24 qy_F_init qw_F_init 0 := ⟨qc_F_init, 2, rfl, qi_F_init, (gTb_1 (i := 26) (by rfl) rfl), (gTb_1 (i := 27) (by rfl) rfl), (gTb_1 (i := 3) (by rfl) rfl), rfl, ⟨by decide, by decide, by decide +kernel⟩, by decide⟩
theorem qa_G_39 : gLi "GossipNodes" 39 qy_N_init qw_N_init 3 := ⟨qc_N_init, 5, rfl, qi_N_init, (gTb_1 (i := 94) (by rfl) rfl), (gTb_1 (i := 95) (by rfl) rfl), (gTb_1 (i := 5) (by rfl) rfl), rfl, ⟨by decide, by decide, by decide +kernel⟩, by decide⟩
theorem qv_G_45 : gLv "GossipNodes" 45 qy_G_isNode qw_G_isNode 1 := ⟨qc_G_isNode, 2, _, rfl, qi_G_isNode, (gTb_1 (i := 231) (by rfl) rfl), (gTb_1 (i := 233) (by rfl) rfl), (gTb_sel (i := 0) (by rfl)), (gTb_1 (i := 1) (by rfl) rfl), ⟨by decide, by decide, by decide +kernel⟩, by decide⟩
theorem qv_G_53 : gLv "GossipNodes" 53 qy_N_begin qw_N_begin 1 := ⟨qc_N_begin, 3, _, rfl, qi_N_begin, (gTb_1 (i := 235) (by rfl) rfl), (gTb_1 (i := 236) (by rfl) rfl), (gTb_1 (i := 237) (by rfl) rfl), (gTb_1 (i := 5) (by rfl) rfl), ⟨by decide, by decide, by decide +kernel⟩, by decide⟩
theorem qv_G_57 : gLv "GossipNodes" 57 qy_N_send qw_N_send 5 := ⟨qc_N_send, 7, _, rfl, qi_N_send, (gTb_2 (i := 11) (by rfl) rfl), (gTb_2 (i := 12) (by rfl) rfl), (gTb_2 (i := 13) (by rfl) rfl), (gTb_1 (i := 5) (by rfl) rfl), ⟨by decide, by decide, by decide +kernel⟩, by decide⟩
theorem qv_G_61 : gLv "GossipNodes" 61 qy_G_isRunning qw_G_isRunning 1 := ⟨qc_G_isRunning, 2, _, rfl, qi_G_isRunning, (gTb_2 (i := 47) (by rfl) rfl), (gTb_2 (i := 49) (by rfl) rfl), (gTb_sel (i := 4) (by rfl)), (gTb_1 (i := 1) (by rfl) rfl), ⟨by decide, by decide, by decide +kernel⟩, by decide⟩
theorem qv_G_64 : gLv "GossipNodes" 64 qy_N_sayFarewell qw_N_sayFarewell 1 := ⟨qc_N_sayFarewell, 3, _, rfl, qi_N_sayFarewell, (gTb_2 (i := 55) (by rfl) rfl), (gTb_2 (i := 56) (by rfl) rfl), (gTb_2 (i := 57) (by rfl) rfl), (gTb_1 (i := 5) (by rfl) rfl), ⟨by decide, by decide, by decide +kernel⟩, by decide⟩
theorem qv_G_67 : gLv "GossipNodes" 67 qy_G_areCut qw_G_areCut 2 := ⟨qc_G_areCut, 3, _, rfl, qi_G_areCut, (gTb_2 (i := 64) (by rfl) rfl), (gTb_2 (i := 66) (by rfl) rfl), (gTb_sel (i := 5) (by rfl)), (gTb_1 (i := 1) (by rfl) rfl), ⟨by decide, by decide, by decide +kernel⟩, by decide⟩
theorem qv_G_71 : gLv "GossipNodes" 71 qy_F_lose qw_F_lose 1 := ⟨qc_F_lose, 4, _, rfl, qi_F_lose, (gTb_2 (i := 72) (by rfl) rfl), (gTb_2 (i := 73) (by rfl) rfl), (gTb_2 (i := 74) (by rfl) rfl), (gTb_1 (i := 3) (by rfl) rfl), ⟨by decide, by decide, by decide +kernel⟩, by decide⟩
theorem qv_G_74 : gLv "GossipNodes" 74 qy_F_overtake qw_F_overtake 1 := ⟨qc_F_overtake, 3, _, rfl, qi_F_overtake, (gTb_2 (i := 80) (by rfl) rfl), (gTb_2 (i := 81) (by rfl) rfl), (gTb_2 (i := 82) (by rfl) rfl), (gTb_1 (i := 3) (by rfl) rfl), ⟨by decide, by decide, by decide +kernel⟩, by decide⟩
theorem qv_G_77 : gLv "GossipNodes" 77 qy_G_deliverAll qw_G_deliverAll 0 := ⟨qc_G_deliverAll, 6, _, rfl, qi_G_deliverAll, (gTb_2 (i := 88) (by rfl) rfl), (gTb_2 (i := 90) (by rfl) rfl), (gTb_sel (i := 6) (by rfl)), (gTb_1 (i := 1) (by rfl) rfl), ⟨by decide, by decide, by decide +kernel⟩, by decide⟩
theorem qv_G_81 : gLv "GossipNodes" 81 qy_N_timer qw_N_timer 1 := ⟨qc_N_timer, 2, _, rfl, qi_N_timer, (gTb_2 (i := 147) (by rfl) rfl), (gTb_2 (i := 148) (by rfl) rfl), (gTb_2 (i := 149) (by rfl) rfl), (gTb_1 (i := 5) (by rfl) rfl), ⟨by decide, by decide, by decide +kernel⟩, by decide⟩
theorem qv_G_91 : gLv "GossipNodes" 91 qy_M_tell qw_M_tell 1 := ⟨qc_M_tell, 2, _, rfl, qi_M_tell, (gTb_2 (i := 202) (by rfl) rfl), (gTb_2 (i := 203) (by rfl) rfl), (gTb_2 (i := 204) (by rfl) rfl), (gTb_1 (i := 4) (by rfl) rfl), ⟨by decide, by decide, by decide +kernel⟩, by decide⟩
theorem qv_G_101 : gLv "GossipNodes" 101 qy_E_tell qw_E_tell 1 := ⟨qc_E_tell, 2, _, rfl, qi_E_tell, (gTb_2 (i := 214) (by rfl) rfl), (gTb_2 (i := 215) (by rfl) rfl), (gTb_2 (i := 216) (by rfl) rfl), (gTb_1 (i := 6) (by rfl) rfl), ⟨by decide, by decide, by decide +kernel⟩, by decide⟩
theorem qv_G_104 : gLv "GossipNodes" 104 qy_N_tell qw_N_tell 1 := ⟨qc_N_tell, 2, _, rfl, qi_N_tell, (gTb_2 (i := 223) (by rfl) rfl), (gTb_2 (i := 224) (by rfl) rfl), (gTb_2 (i := 225) (by rfl) rfl), (gTb_1 (i := 5) (by rfl) rfl), ⟨by decide, by decide, by decide +kernel⟩, by decide⟩
theorem qv_G_108 : gLv "GossipNodes" 108 qy_G_seesJustTheRunning qw_G_seesJustTheRunning 1 := ⟨qc_G_seesJustTheRunning, 4, _, rfl, qi_G_seesJustTheRunning, (gTb_2 (i := 239) (by rfl) rfl), (gTb_3 (i := 1) (by rfl) rfl), (gTb_sel (i := 24) (by rfl)), (gTb_1 (i := 1) (by rfl) rfl), ⟨by decide, by decide, by decide +kernel⟩, by decide⟩
theorem qv_G_112 : gLv "GossipNodes" 112 qy_F_land qw_F_land 0 := ⟨qc_F_land, 3, _, rfl, qi_F_land, (gTb_2 (i := 92) (by rfl) rfl), (gTb_2 (i := 93) (by rfl) rfl), (gTb_2 (i := 94) (by rfl) rfl), (gTb_1 (i := 3) (by rfl) rfl), ⟨by decide, by decide, by decide +kernel⟩, by decide⟩
theorem qv_G_124 : gLv "GossipNodes" 124 qy_N_receive qw_N_receive 2 := ⟨qc_N_receive, 5, _, rfl, qi_N_receive, (gTb_2 (i := 96) (by rfl) rfl), (gTb_2 (i := 97) (by rfl) rfl), (gTb_2 (i := 98) (by rfl) rfl), (gTb_1 (i := 5) (by rfl) rfl), ⟨by decide, by decide, by decide +kernel⟩, by decide⟩
theorem qv_E_27 : gLv "GossipNodes$Entry" 27 qy_E_announce qw_E_announce 0 := ⟨qc_E_announce, 1, _, rfl, qi_E_announce, (gTb_2 (i := 7) (by rfl) rfl), (gTb_2 (i := 8) (by rfl) rfl), (gTb_2 (i := 9) (by rfl) rfl), (gTb_1 (i := 6) (by rfl) rfl), ⟨by decide, by decide, by decide +kernel⟩, by decide⟩
theorem qv_E_30 : gLv "GossipNodes$Entry" 30 qy_E_become qw_E_become 3 := ⟨qc_E_become, 4, _, rfl, qi_E_become, (gTb_2 (i := 122) (by rfl) rfl), (gTb_2 (i := 4) (by rfl) rfl), (gTb_2 (i := 5) (by rfl) rfl), (gTb_1 (i := 6) (by rfl) rfl), ⟨by decide, by decide, by decide +kernel⟩, by decide⟩
theorem qs_E_34 : gLs "GossipNodes$Entry" 34 qy_J_bitCount qw_J_bitCount 1 := ⟨qc_J_bitCount, 1, _, rfl, qi_J_bitCount, (gTb_2 (i := 218) (by rfl) rfl), (gTb_2 (i := 160) (by rfl) rfl), (gTb_1 (i := 9) (by rfl) rfl), ⟨by decide, by decide, by decide +kernel⟩, by decide⟩
theorem qv_M_45 : gLv "GossipNodes$Message" 45 qy_M_tellNews qw_M_tellNews 1 := ⟨qc_M_tellNews, 2, _, rfl, qi_M_tellNews, (gTb_2 (i := 206) (by rfl) rfl), (gTb_2 (i := 208) (by rfl) rfl), (gTb_sel (i := 22) (by rfl)), (gTb_1 (i := 4) (by rfl) rfl), ⟨by decide, by decide, by decide +kernel⟩, by decide⟩
theorem qv_N_36 : gLv "GossipNodes$Node" 36 qy_E_forget qw_E_forget 0 := ⟨qc_E_forget, 1, _, rfl, qi_E_forget, (gTb_1 (i := 239) (by rfl) rfl), (gTb_2 (i := 0) (by rfl) rfl), (gTb_2 (i := 1) (by rfl) rfl), (gTb_1 (i := 6) (by rfl) rfl), ⟨by decide, by decide, by decide +kernel⟩, by decide⟩
theorem qv_N_39 : gLv "GossipNodes$Node" 39 qy_E_become qw_E_become 3 := ⟨qc_E_become, 4, _, rfl, qi_E_become, (gTb_2 (i := 3) (by rfl) rfl), (gTb_2 (i := 4) (by rfl) rfl), (gTb_2 (i := 5) (by rfl) rfl), (gTb_1 (i := 6) (by rfl) rfl), ⟨by decide, by decide, by decide +kernel⟩, by decide⟩
theorem qv_N_89 : gLv "GossipNodes$Node" 89 qy_N_send qw_N_send 5 := ⟨qc_N_send, 7, _, rfl, qi_N_send, (gTb_2 (i := 59) (by rfl) rfl), (gTb_2 (i := 12) (by rfl) rfl), (gTb_2 (i := 13) (by rfl) rfl), (gTb_1 (i := 5) (by rfl) rfl), ⟨by decide, by decide, by decide +kernel⟩, by decide⟩
theorem qv_N_93 : gLv "GossipNodes$Node" 93 qy_F_next qw_F_next 0 := ⟨qc_F_next, 1, _, rfl, qi_F_next, (gTb_2 (i := 15) (by rfl) rfl), (gTb_2 (i := 16) (by rfl) rfl), (gTb_2 (i := 17) (by rfl) rfl), (gTb_1 (i := 3) (by rfl) rfl), ⟨by decide, by decide, by decide +kernel⟩, by decide⟩
theorem qv_N_99 : gLv "GossipNodes$Node" 99 qy_M_address qw_M_address 3 := ⟨qc_M_address, 4, _, rfl, qi_M_address, (gTb_2 (i := 19) (by rfl) rfl), (gTb_2 (i := 20) (by rfl) rfl), (gTb_2 (i := 21) (by rfl) rfl), (gTb_1 (i := 4) (by rfl) rfl), ⟨by decide, by decide, by decide +kernel⟩, by decide⟩
theorem qv_N_104 : gLv "GossipNodes$Node" 104 qy_M_concern qw_M_concern 3 := ⟨qc_M_concern, 4, _, rfl, qi_M_concern, (gTb_2 (i := 23) (by rfl) rfl), (gTb_2 (i := 24) (by rfl) rfl), (gTb_2 (i := 25) (by rfl) rfl), (gTb_1 (i := 4) (by rfl) rfl), ⟨by decide, by decide, by decide +kernel⟩, by decide⟩
theorem qv_N_107 : gLv "GossipNodes$Node" 107 qy_N_loadTable qw_N_loadTable 1 := ⟨qc_N_loadTable, 3, _, rfl, qi_N_loadTable, (gTb_2 (i := 27) (by rfl) rfl), (gTb_2 (i := 29) (by rfl) rfl), (gTb_sel (i := 1) (by rfl)), (gTb_1 (i := 5) (by rfl) rfl), ⟨by decide, by decide, by decide +kernel⟩, by decide⟩
theorem qv_N_111 : gLv "GossipNodes$Node" 111 qy_N_loadQueued qw_N_loadQueued 1 := ⟨qc_N_loadQueued, 5, _, rfl, qi_N_loadQueued, (gTb_2 (i := 35) (by rfl) rfl), (gTb_2 (i := 37) (by rfl) rfl), (gTb_sel (i := 2) (by rfl)), (gTb_1 (i := 5) (by rfl) rfl), ⟨by decide, by decide, by decide +kernel⟩, by decide⟩
theorem qv_N_114 : gLv "GossipNodes$Node" 114 qy_M_carry qw_M_carry 2 := ⟨qc_M_carry, 4, _, rfl, qi_M_carry, (gTb_2 (i := 31) (by rfl) rfl), (gTb_2 (i := 32) (by rfl) rfl), (gTb_2 (i := 33) (by rfl) rfl), (gTb_1 (i := 4) (by rfl) rfl), ⟨by decide, by decide, by decide +kernel⟩, by decide⟩
theorem qv_N_118 : gLv "GossipNodes$Node" 118 qy_N_mostToSend qw_N_mostToSend 1 := ⟨qc_N_mostToSend, 5, _, rfl, qi_N_mostToSend, (gTb_2 (i := 39) (by rfl) rfl), (gTb_2 (i := 41) (by rfl) rfl), (gTb_sel (i := 3) (by rfl)), (gTb_1 (i := 5) (by rfl) rfl), ⟨by decide, by decide, by decide +kernel⟩, by decide⟩
theorem qv_N_135 : gLv "GossipNodes$Node" 135 qy_N_learn qw_N_learn 5 := ⟨qc_N_learn, 7, _, rfl, qi_N_learn, (gTb_2 (i := 100) (by rfl) rfl), (gTb_2 (i := 102) (by rfl) rfl), (gTb_sel (i := 7) (by rfl)), (gTb_1 (i := 5) (by rfl) rfl), ⟨by decide, by decide, by decide +kernel⟩, by decide⟩
theorem qv_N_150 : gLv "GossipNodes$Node" 150 qy_N_takeAck qw_N_takeAck 1 := ⟨qc_N_takeAck, 3, _, rfl, qi_N_takeAck, (gTb_2 (i := 127) (by rfl) rfl), (gTb_2 (i := 129) (by rfl) rfl), (gTb_sel (i := 10) (by rfl)), (gTb_1 (i := 5) (by rfl) rfl), ⟨by decide, by decide, by decide +kernel⟩, by decide⟩
theorem qv_N_153 : gLv "GossipNodes$Node" 153 qy_N_takeAsk qw_N_takeAsk 1 := ⟨qc_N_takeAsk, 3, _, rfl, qi_N_takeAsk, (gTb_2 (i := 143) (by rfl) rfl), (gTb_2 (i := 145) (by rfl) rfl), (gTb_sel (i := 13) (by rfl)), (gTb_1 (i := 5) (by rfl) rfl), ⟨by decide, by decide, by decide +kernel⟩, by decide⟩
theorem qv_N_156 : gLv "GossipNodes$Node" 156 qy_N_isOfProbe qw_N_isOfProbe 1 := ⟨qc_N_isOfProbe, 2, _, rfl, qi_N_isOfProbe, (gTb_2 (i := 131) (by rfl) rfl), (gTb_2 (i := 133) (by rfl) rfl), (gTb_sel (i := 11) (by rfl)), (gTb_1 (i := 5) (by rfl) rfl), ⟨by decide, by decide, by decide +kernel⟩, by decide⟩
theorem qv_N_160 : gLv "GossipNodes$Node" 160 qy_N_refute qw_N_refute 2 := ⟨qc_N_refute, 4, _, rfl, qi_N_refute, (gTb_2 (i := 104) (by rfl) rfl), (gTb_2 (i := 106) (by rfl) rfl), (gTb_sel (i := 8) (by rfl)), (gTb_1 (i := 5) (by rfl) rfl), ⟨by decide, by decide, by decide +kernel⟩, by decide⟩
theorem qv_N_164 : gLv "GossipNodes$Node" 164 qy_E_isBelow qw_E_isBelow 2 := ⟨qc_E_isBelow, 3, _, rfl, qi_E_isBelow, (gTb_2 (i := 114) (by rfl) rfl), (gTb_2 (i := 115) (by rfl) rfl), (gTb_2 (i := 116) (by rfl) rfl), (gTb_1 (i := 6) (by rfl) rfl), ⟨by decide, by decide, by decide +kernel⟩, by decide⟩
theorem qv_N_168 : gLv "GossipNodes$Node" 168 qy_E_becomeSuspect qw_E_becomeSuspect 3 := ⟨qc_E_becomeSuspect, 4, _, rfl, qi_E_becomeSuspect, (gTb_2 (i := 118) (by rfl) rfl), (gTb_2 (i := 119) (by rfl) rfl), (gTb_2 (i := 120) (by rfl) rfl), (gTb_1 (i := 6) (by rfl) rfl), ⟨by decide, by decide, by decide +kernel⟩, by decide⟩
theorem qv_N_171 : gLv "GossipNodes$Node" 171 qy_E_isSameSuspicion qw_E_isSameSuspicion 2 := ⟨qc_E_isSameSuspicion, 3, _, rfl, qi_E_isSameSuspicion, (gTb_2 (i := 123) (by rfl) rfl), (gTb_2 (i := 124) (by rfl) rfl), (gTb_2 (i := 125) (by rfl) rfl), (gTb_1 (i := 6) (by rfl) rfl), ⟨by decide, by decide, by decide +kernel⟩, by decide⟩
theorem qv_N_177 : gLv "GossipNodes$Node" 177 qy_N_raiseScore qw_N_raiseScore 1 := ⟨qc_N_raiseScore, 2, _, rfl, qi_N_raiseScore, (gTb_2 (i := 108) (by rfl) rfl), (gTb_2 (i := 110) (by rfl) rfl), (gTb_sel (i := 9) (by rfl)), (gTb_1 (i := 5) (by rfl) rfl), ⟨by decide, by decide, by decide +kernel⟩, by decide⟩
theorem qv_N_181 : gLv "GossipNodes$Node" 181 qy_E_announce qw_E_announce 0 := ⟨qc_E_announce, 1, _, rfl, qi_E_announce, (gTb_2 (i := 113) (by rfl) rfl), (gTb_2 (i := 8) (by rfl) rfl), (gTb_2 (i := 9) (by rfl) rfl), (gTb_1 (i := 6) (by rfl) rfl), ⟨by decide, by decide, by decide +kernel⟩, by decide⟩
theorem qv_N_190 : gLv "GossipNodes$Node" 190 qy_R_isFor qw_R_isFor 1 := ⟨qc_R_isFor, 2, _, rfl, qi_R_isFor, (gTb_2 (i := 135) (by rfl) rfl), (gTb_2 (i := 136) (by rfl) rfl), (gTb_2 (i := 137) (by rfl) rfl), (gTb_1 (i := 7) (by rfl) rfl), ⟨by decide, by decide, by decide +kernel⟩, by decide⟩
theorem qv_N_193 : gLv "GossipNodes$Node" 193 qy_N_endRelay qw_N_endRelay 1 := ⟨qc_N_endRelay, 4, _, rfl, qi_N_endRelay, (gTb_2 (i := 139) (by rfl) rfl), (gTb_2 (i := 141) (by rfl) rfl), (gTb_sel (i := 12) (by rfl)), (gTb_1 (i := 5) (by rfl) rfl), ⟨by decide, by decide, by decide +kernel⟩, by decide⟩
theorem qv_N_202 : gLv "GossipNodes$Node" 202 qy_N_ageRelays qw_N_ageRelays 0 := ⟨qc_N_ageRelays, 5, _, rfl, qi_N_ageRelays, (gTb_2 (i := 151) (by rfl) rfl), (gTb_2 (i := 153) (by rfl) rfl), (gTb_sel (i := 14) (by rfl)), (gTb_1 (i := 5) (by rfl) rfl), ⟨by decide, by decide, by decide +kernel⟩, by decide⟩
theorem qv_N_205 : gLv "GossipNodes$Node" 205 qy_N_buryOverdue qw_N_buryOverdue 1 := ⟨qc_N_buryOverdue, 5, _, rfl, qi_N_buryOverdue, (gTb_2 (i := 155) (by rfl) rfl), (gTb_2 (i := 157) (by rfl) rfl), (gTb_sel (i := 15) (by rfl)), (gTb_1 (i := 5) (by rfl) rfl), ⟨by decide, by decide, by decide +kernel⟩, by decide⟩
theorem qv_N_208 : gLv "GossipNodes$Node" 208 qy_N_restOrProbe qw_N_restOrProbe 0 := ⟨qc_N_restOrProbe, 2, _, rfl, qi_N_restOrProbe, (gTb_2 (i := 165) (by rfl) rfl), (gTb_2 (i := 167) (by rfl) rfl), (gTb_sel (i := 16) (by rfl)), (gTb_1 (i := 5) (by rfl) rfl), ⟨by decide, by decide, by decide +kernel⟩, by decide⟩
theorem qv_N_211 : gLv "GossipNodes$Node" 211 qy_N_goOnProbing qw_N_goOnProbing 1 := ⟨qc_N_goOnProbing, 2, _, rfl, qi_N_goOnProbing, (gTb_2 (i := 173) (by rfl) rfl), (gTb_2 (i := 175) (by rfl) rfl), (gTb_sel (i := 18) (by rfl)), (gTb_1 (i := 5) (by rfl) rfl), ⟨by decide, by decide, by decide +kernel⟩, by decide⟩
theorem qv_N_214 : gLv "GossipNodes$Node" 214 qy_N_syncWithNext qw_N_syncWithNext 0 := ⟨qc_N_syncWithNext, 2, _, rfl, qi_N_syncWithNext, (gTb_2 (i := 186) (by rfl) rfl), (gTb_2 (i := 188) (by rfl) rfl), (gTb_sel (i := 21) (by rfl)), (gTb_1 (i := 5) (by rfl) rfl), ⟨by decide, by decide, by decide +kernel⟩, by decide⟩
theorem qs_N_217 : gLs "GossipNodes$Node" 217 qy_J_bitCount qw_J_bitCount 1 := ⟨qc_J_bitCount, 1, _, rfl, qi_J_bitCount, (gTb_2 (i := 159) (by rfl) rfl), (gTb_2 (i := 160) (by rfl) rfl), (gTb_1 (i := 9) (by rfl) rfl), ⟨by decide, by decide, by decide +kernel⟩, by decide⟩
theorem qv_N_225 : gLv "GossipNodes$Node" 225 qy_N_nextBehind qw_N_nextBehind 2 := ⟨qc_N_nextBehind, 5, _, rfl, qi_N_nextBehind, (gTb_2 (i := 169) (by rfl) rfl), (gTb_2 (i := 171) (by rfl) rfl), (gTb_sel (i := 17) (by rfl)), (gTb_1 (i := 5) (by rfl) rfl), ⟨by decide, by decide, by decide +kernel⟩, by decide⟩
theorem qv_N_228 : gLv "GossipNodes$Node" 228 qy_N_askOthers qw_N_askOthers 0 := ⟨qc_N_askOthers, 3, _, rfl, qi_N_askOthers, (gTb_2 (i := 177) (by rfl) rfl), (gTb_2 (i := 179) (by rfl) rfl), (gTb_sel (i := 19) (by rfl)), (gTb_1 (i := 5) (by rfl) rfl), ⟨by decide, by decide, by decide +kernel⟩, by decide⟩
theorem qv_N_231 : gLv "GossipNodes$Node" 231 qy_N_endProbe qw_N_endProbe 1 := ⟨qc_N_endProbe, 3, _, rfl, qi_N_endProbe, (gTb_2 (i := 181) (by rfl) rfl), (gTb_2 (i := 183) (by rfl) rfl), (gTb_sel (i := 20) (by rfl)), (gTb_1 (i := 5) (by rfl) rfl), ⟨by decide, by decide, by decide +kernel⟩, by decide⟩
theorem qv_N_237 : gLv "GossipNodes$Node" 237 qy_N_countQueued qw_N_countQueued 0 := ⟨qc_N_countQueued, 3, _, rfl, qi_N_countQueued, (gTb_2 (i := 227) (by rfl) rfl), (gTb_2 (i := 229) (by rfl) rfl), (gTb_sel (i := 23) (by rfl)), (gTb_1 (i := 5) (by rfl) rfl), ⟨by decide, by decide, by decide +kernel⟩, by decide⟩
theorem qs_L_9 : gLs "GossipNodesLaw" 9 qy_L_cell qw_L_cell 2 := ⟨qc_L_cell, 2, _, rfl, qi_L_cell, (gTb_3 (i := 3) (by rfl) rfl), (gTb_3 (i := 4) (by rfl) rfl), (gTb_1 (i := 0) (by rfl) rfl), ⟨by decide, by decide, by decide +kernel⟩, by decide⟩
theorem qa_L_15 : gLi "GossipNodesLaw" 15 qy_G_init qw_G_init 1 := ⟨qc_G_init, 3, rfl, qi_G_init, (gTb_1 (i := 12) (by rfl) rfl), (gTb_1 (i := 13) (by rfl) rfl), (gTb_1 (i := 1) (by rfl) rfl), rfl, ⟨by decide, by decide, by decide +kernel⟩, by decide⟩
theorem qa_L_20 : gLi "GossipNodesLaw" 20 qy_Z_init qw_Z_init 1 := ⟨qc_Z_init, 2, rfl, qi_Z_init, (gTb_3 (i := 8) (by rfl) rfl), (gTb_3 (i := 9) (by rfl) rfl), (gTb_1 (i := 8) (by rfl) rfl), rfl, ⟨by decide, by decide, by decide +kernel⟩, by decide⟩
theorem qv_L_21 : gLv "GossipNodesLaw" 21 qy_G_start qw_G_start 2 := ⟨qc_G_start, 3, _, rfl, qi_G_start, (gTb_1 (i := 227) (by rfl) rfl), (gTb_1 (i := 228) (by rfl) rfl), (gTb_1 (i := 229) (by rfl) rfl), (gTb_1 (i := 1) (by rfl) rfl), ⟨by decide, by decide, by decide +kernel⟩, by decide⟩
theorem qv_L_25 : gLv "GossipNodesLaw" 25 qy_Z_start qw_Z_start 2 := ⟨qc_Z_start, 4, _, rfl, qi_Z_start, (gTb_3 (i := 98) (by rfl) rfl), (gTb_3 (i := 99) (by rfl) rfl), (gTb_3 (i := 100) (by rfl) rfl), (gTb_1 (i := 8) (by rfl) rfl), ⟨by decide, by decide, by decide +kernel⟩, by decide⟩
theorem qv_L_26 : gLv "GossipNodesLaw" 26 qy_G_crash qw_G_crash 1 := ⟨qc_G_crash, 2, _, rfl, qi_G_crash, (gTb_2 (i := 43) (by rfl) rfl), (gTb_2 (i := 44) (by rfl) rfl), (gTb_2 (i := 45) (by rfl) rfl), (gTb_1 (i := 1) (by rfl) rfl), ⟨by decide, by decide, by decide +kernel⟩, by decide⟩
theorem qv_L_30 : gLv "GossipNodesLaw" 30 qy_Z_crash qw_Z_crash 1 := ⟨qc_Z_crash, 2, _, rfl, qi_Z_crash, (gTb_3 (i := 134) (by rfl) rfl), (gTb_3 (i := 135) (by rfl) rfl), (gTb_3 (i := 136) (by rfl) rfl), (gTb_1 (i := 8) (by rfl) rfl), ⟨by decide, by decide, by decide +kernel⟩, by decide⟩
theorem qv_L_31 : gLv "GossipNodesLaw" 31 qy_G_leave qw_G_leave 1 := ⟨qc_G_leave, 2, _, rfl, qi_G_leave, (gTb_2 (i := 51) (by rfl) rfl), (gTb_2 (i := 52) (by rfl) rfl), (gTb_2 (i := 53) (by rfl) rfl), (gTb_1 (i := 1) (by rfl) rfl), ⟨by decide, by decide, by decide +kernel⟩, by decide⟩
theorem qv_L_34 : gLv "GossipNodesLaw" 34 qy_Z_leave qw_Z_leave 1 := ⟨qc_Z_leave, 3, _, rfl, qi_Z_leave, (gTb_3 (i := 142) (by rfl) rfl), (gTb_3 (i := 143) (by rfl) rfl), (gTb_3 (i := 144) (by rfl) rfl), (gTb_1 (i := 8) (by rfl) rfl), ⟨by decide, by decide, by decide +kernel⟩, by decide⟩
theorem qv_L_35 : gLv "GossipNodesLaw" 35 qy_G_cut qw_G_cut 3 := ⟨qc_G_cut, 4, _, rfl, qi_G_cut, (gTb_2 (i := 60) (by rfl) rfl), (gTb_2 (i := 61) (by rfl) rfl), (gTb_2 (i := 62) (by rfl) rfl), (gTb_1 (i := 1) (by rfl) rfl), ⟨by decide, by decide, by decide +kernel⟩, by decide⟩
theorem qv_L_39 : gLv "GossipNodesLaw" 39 qy_Z_cut qw_Z_cut 3 := ⟨qc_Z_cut, 4, _, rfl, qi_Z_cut, (gTb_3 (i := 146) (by rfl) rfl), (gTb_3 (i := 147) (by rfl) rfl), (gTb_3 (i := 148) (by rfl) rfl), (gTb_1 (i := 8) (by rfl) rfl), ⟨by decide, by decide, by decide +kernel⟩, by decide⟩
theorem qv_L_40 : gLv "GossipNodesLaw" 40 qy_G_drop qw_G_drop 1 := ⟨qc_G_drop, 2, _, rfl, qi_G_drop, (gTb_2 (i := 68) (by rfl) rfl), (gTb_2 (i := 69) (by rfl) rfl), (gTb_2 (i := 70) (by rfl) rfl), (gTb_1 (i := 1) (by rfl) rfl), ⟨by decide, by decide, by decide +kernel⟩, by decide⟩
theorem qv_L_43 : gLv "GossipNodesLaw" 43 qy_Z_drop qw_Z_drop 1 := ⟨qc_Z_drop, 2, _, rfl, qi_Z_drop, (gTb_3 (i := 150) (by rfl) rfl), (gTb_3 (i := 151) (by rfl) rfl), (gTb_3 (i := 152) (by rfl) rfl), (gTb_1 (i := 8) (by rfl) rfl), ⟨by decide, by decide, by decide +kernel⟩, by decide⟩
theorem qv_L_44 : gLv "GossipNodesLaw" 44 qy_G_swap qw_G_swap 1 := ⟨qc_G_swap, 2, _, rfl, qi_G_swap, (gTb_2 (i := 76) (by rfl) rfl), (gTb_2 (i := 77) (by rfl) rfl), (gTb_2 (i := 78) (by rfl) rfl), (gTb_1 (i := 1) (by rfl) rfl), ⟨by decide, by decide, by decide +kernel⟩, by decide⟩
theorem qv_L_47 : gLv "GossipNodesLaw" 47 qy_Z_swap qw_Z_swap 1 := ⟨qc_Z_swap, 4, _, rfl, qi_Z_swap, (gTb_3 (i := 158) (by rfl) rfl), (gTb_3 (i := 159) (by rfl) rfl), (gTb_3 (i := 160) (by rfl) rfl), (gTb_1 (i := 8) (by rfl) rfl), ⟨by decide, by decide, by decide +kernel⟩, by decide⟩
theorem qv_L_48 : gLv "GossipNodesLaw" 48 qy_G_ticks qw_G_ticks 1 := ⟨qc_G_ticks, 5, _, rfl, qi_G_ticks, (gTb_2 (i := 84) (by rfl) rfl), (gTb_2 (i := 85) (by rfl) rfl), (gTb_2 (i := 86) (by rfl) rfl), (gTb_1 (i := 1) (by rfl) rfl), ⟨by decide, by decide, by decide +kernel⟩, by decide⟩
theorem qv_L_52 : gLv "GossipNodesLaw" 52 qy_Z_ticks qw_Z_ticks 1 := ⟨qc_Z_ticks, 6, _, rfl, qi_Z_ticks, (gTb_3 (i := 162) (by rfl) rfl), (gTb_3 (i := 163) (by rfl) rfl), (gTb_3 (i := 164) (by rfl) rfl), (gTb_1 (i := 8) (by rfl) rfl), ⟨by decide, by decide, by decide +kernel⟩, by decide⟩
theorem qv_L_53 : gLv "GossipNodesLaw" 53 qy_G_now qw_G_now 0 := ⟨qc_G_now, 1, _, rfl, qi_G_now, (gTb_2 (i := 190) (by rfl) rfl), (gTb_2 (i := 191) (by rfl) rfl), (gTb_2 (i := 192) (by rfl) rfl), (gTb_1 (i := 1) (by rfl) rfl), ⟨by decide, by decide, by decide +kernel⟩, by decide⟩
theorem qv_L_57 : gLv "GossipNodesLaw" 57 qy_Z_now qw_Z_now 0 := ⟨qc_Z_now, 1, _, rfl, qi_Z_now, (gTb_3 (i := 225) (by rfl) rfl), (gTb_3 (i := 226) (by rfl) rfl), (gTb_3 (i := 227) (by rfl) rfl), (gTb_1 (i := 8) (by rfl) rfl), ⟨by decide, by decide, by decide +kernel⟩, by decide⟩
theorem qv_L_58 : gLv "GossipNodesLaw" 58 qy_G_flight qw_G_flight 0 := ⟨qc_G_flight, 1, _, rfl, qi_G_flight, (gTb_2 (i := 194) (by rfl) rfl), (gTb_2 (i := 195) (by rfl) rfl), (gTb_2 (i := 196) (by rfl) rfl), (gTb_1 (i := 1) (by rfl) rfl), ⟨by decide, by decide, by decide +kernel⟩, by decide⟩
theorem qv_L_61 : gLv "GossipNodesLaw" 61 qy_Z_flight qw_Z_flight 0 := ⟨qc_Z_flight, 1, _, rfl, qi_Z_flight, (gTb_3 (i := 229) (by rfl) rfl), (gTb_3 (i := 230) (by rfl) rfl), (gTb_3 (i := 231) (by rfl) rfl), (gTb_1 (i := 8) (by rfl) rfl), ⟨by decide, by decide, by decide +kernel⟩, by decide⟩
theorem qv_L_62 : gLv "GossipNodesLaw" 62 qy_G_message qw_G_message 2 := ⟨qc_G_message, 3, _, rfl, qi_G_message, (gTb_2 (i := 198) (by rfl) rfl), (gTb_2 (i := 199) (by rfl) rfl), (gTb_2 (i := 200) (by rfl) rfl), (gTb_1 (i := 1) (by rfl) rfl), ⟨by decide, by decide, by decide +kernel⟩, by decide⟩
theorem qv_L_66 : gLv "GossipNodesLaw" 66 qy_Z_message qw_Z_message 2 := ⟨qc_Z_message, 3, _, rfl, qi_Z_message, (gTb_3 (i := 233) (by rfl) rfl), (gTb_3 (i := 234) (by rfl) rfl), (gTb_3 (i := 235) (by rfl) rfl), (gTb_1 (i := 8) (by rfl) rfl), ⟨by decide, by decide, by decide +kernel⟩, by decide⟩
theorem qv_L_67 : gLv "GossipNodesLaw" 67 qy_G_view qw_G_view 3 := ⟨qc_G_view, 4, _, rfl, qi_G_view, (gTb_2 (i := 210) (by rfl) rfl), (gTb_2 (i := 211) (by rfl) rfl), (gTb_2 (i := 212) (by rfl) rfl), (gTb_1 (i := 1) (by rfl) rfl), ⟨by decide, by decide, by decide +kernel⟩, by decide⟩
theorem qv_L_71 : gLv "GossipNodesLaw" 71 qy_Z_view qw_Z_view 3 := ⟨qc_Z_view, 5, _, rfl, qi_Z_view, (gTb_3 (i := 237) (by rfl) rfl), (gTb_3 (i := 238) (by rfl) rfl), (gTb_3 (i := 239) (by rfl) rfl), (gTb_1 (i := 8) (by rfl) rfl), ⟨by decide, by decide, by decide +kernel⟩, by decide⟩
theorem qv_L_72 : gLv "GossipNodesLaw" 72 qy_G_node qw_G_node 2 := ⟨qc_G_node, 3, _, rfl, qi_G_node, (gTb_2 (i := 219) (by rfl) rfl), (gTb_2 (i := 220) (by rfl) rfl), (gTb_2 (i := 221) (by rfl) rfl), (gTb_1 (i := 1) (by rfl) rfl), ⟨by decide, by decide, by decide +kernel⟩, by decide⟩
theorem qv_L_75 : gLv "GossipNodesLaw" 75 qy_Z_node qw_Z_node 2 := ⟨qc_Z_node, 3, _, rfl, qi_Z_node, (gTb_4 (i := 1) (by rfl) rfl), (gTb_4 (i := 2) (by rfl) rfl), (gTb_4 (i := 3) (by rfl) rfl), (gTb_1 (i := 8) (by rfl) rfl), ⟨by decide, by decide, by decide +kernel⟩, by decide⟩
theorem qv_L_76 : gLv "GossipNodesLaw" 76 qy_G_queued qw_G_queued 2 := ⟨qc_G_queued, 3, _, rfl, qi_G_queued, (gTb_2 (i := 231) (by rfl) rfl), (gTb_2 (i := 232) (by rfl) rfl), (gTb_2 (i := 233) (by rfl) rfl), (gTb_1 (i := 1) (by rfl) rfl), ⟨by decide, by decide, by decide +kernel⟩, by decide⟩
theorem qv_L_79 : gLv "GossipNodesLaw" 79 qy_Z_queued qw_Z_queued 2 := ⟨qc_Z_queued, 3, _, rfl, qi_Z_queued, (gTb_4 (i := 9) (by rfl) rfl), (gTb_4 (i := 10) (by rfl) rfl), (gTb_4 (i := 11) (by rfl) rfl), (gTb_1 (i := 8) (by rfl) rfl), ⟨by decide, by decide, by decide +kernel⟩, by decide⟩
theorem qv_L_80 : gLv "GossipNodesLaw" 80 qy_G_agreed qw_G_agreed 0 := ⟨qc_G_agreed, 2, _, rfl, qi_G_agreed, (gTb_2 (i := 235) (by rfl) rfl), (gTb_2 (i := 236) (by rfl) rfl), (gTb_2 (i := 237) (by rfl) rfl), (gTb_1 (i := 1) (by rfl) rfl), ⟨by decide, by decide, by decide +kernel⟩, by decide⟩
theorem qv_L_84 : gLv "GossipNodesLaw" 84 qy_Z_agreed qw_Z_agreed 0 := ⟨qc_Z_agreed, 5, _, rfl, qi_Z_agreed, (gTb_4 (i := 13) (by rfl) rfl), (gTb_4 (i := 14) (by rfl) rfl), (gTb_4 (i := 15) (by rfl) rfl), (gTb_1 (i := 8) (by rfl) rfl), ⟨by decide, by decide, by decide +kernel⟩, by decide⟩
theorem qv_Z_90 : gLv "GossipNodesModel" 90 qy_Z_isNode qw_Z_isNode 1 := ⟨qc_Z_isNode, 2, _, rfl, qi_Z_isNode, (gTb_3 (i := 102) (by rfl) rfl), (gTb_3 (i := 104) (by rfl) rfl), (gTb_sel (i := 25) (by rfl)), (gTb_1 (i := 8) (by rfl) rfl), ⟨by decide, by decide, by decide +kernel⟩, by decide⟩
theorem qv_Z_94 : gLv "GossipNodesModel" 94 qy_Z_mostQueued qw_Z_mostQueued 1 := ⟨qc_Z_mostQueued, 4, _, rfl, qi_Z_mostQueued, (gTb_3 (i := 122) (by rfl) rfl), (gTb_3 (i := 124) (by rfl) rfl), (gTb_sel (i := 30) (by rfl)), (gTb_1 (i := 8) (by rfl) rfl), ⟨by decide, by decide, by decide +kernel⟩, by decide⟩
theorem qv_Z_98 : gLv "GossipNodesModel" 98 qy_Z_addNews qw_Z_addNews 3 := ⟨qc_Z_addNews, 5, _, rfl, qi_Z_addNews, (gTb_3 (i := 126) (by rfl) rfl), (gTb_3 (i := 128) (by rfl) rfl), (gTb_sel (i := 31) (by rfl)), (gTb_1 (i := 8) (by rfl) rfl), ⟨by decide, by decide, by decide +kernel⟩, by decide⟩
theorem qv_Z_102 : gLv "GossipNodesModel" 102 qy_Z_addQueued qw_Z_addQueued 1 := ⟨qc_Z_addQueued, 4, _, rfl, qi_Z_addQueued, (gTb_3 (i := 118) (by rfl) rfl), (gTb_3 (i := 120) (by rfl) rfl), (gTb_sel (i := 29) (by rfl)), (gTb_1 (i := 8) (by rfl) rfl), ⟨by decide, by decide, by decide +kernel⟩, by decide⟩
theorem qv_Z_106 : gLv "GossipNodesModel" 106 qy_Z_addTable qw_Z_addTable 1 := ⟨qc_Z_addTable, 3, _, rfl, qi_Z_addTable, (gTb_3 (i := 130) (by rfl) rfl), (gTb_3 (i := 132) (by rfl) rfl), (gTb_sel (i := 32) (by rfl)), (gTb_1 (i := 8) (by rfl) rfl), ⟨by decide, by decide, by decide +kernel⟩, by decide⟩
theorem qv_Z_115 : gLv "GossipNodesModel" 115 qy_Z_announce qw_Z_announce 4 := ⟨qc_Z_announce, 5, _, rfl, qi_Z_announce, (gTb_3 (i := 110) (by rfl) rfl), (gTb_3 (i := 112) (by rfl) rfl), (gTb_sel (i := 27) (by rfl)), (gTb_1 (i := 8) (by rfl) rfl), ⟨by decide, by decide, by decide +kernel⟩, by decide⟩
theorem qv_Z_119 : gLv "GossipNodesModel" 119 qy_Z_enter qw_Z_enter 5 := ⟨qc_Z_enter, 7, _, rfl, qi_Z_enter, (gTb_3 (i := 106) (by rfl) rfl), (gTb_3 (i := 108) (by rfl) rfl), (gTb_sel (i := 26) (by rfl)), (gTb_1 (i := 8) (by rfl) rfl), ⟨by decide, by decide, by decide +kernel⟩, by decide⟩
theorem qv_Z_123 : gLv "GossipNodesModel" 123 qy_Z_send qw_Z_send 6 := ⟨qc_Z_send, 8, _, rfl, qi_Z_send, (gTb_3 (i := 114) (by rfl) rfl), (gTb_3 (i := 116) (by rfl) rfl), (gTb_sel (i := 28) (by rfl)), (gTb_1 (i := 8) (by rfl) rfl), ⟨by decide, by decide, by decide +kernel⟩, by decide⟩
theorem qv_Z_127 : gLv "GossipNodesModel" 127 qy_Z_isRunning qw_Z_isRunning 1 := ⟨qc_Z_isRunning, 2, _, rfl, qi_Z_isRunning, (gTb_3 (i := 138) (by rfl) rfl), (gTb_3 (i := 140) (by rfl) rfl), (gTb_sel (i := 33) (by rfl)), (gTb_1 (i := 8) (by rfl) rfl), ⟨by decide, by decide, by decide +kernel⟩, by decide⟩
theorem qv_Z_130 : gLv "GossipNodesModel" 130 qy_Z_remove qw_Z_remove 1 := ⟨qc_Z_remove, 3, _, rfl, qi_Z_remove, (gTb_3 (i := 154) (by rfl) rfl), (gTb_3 (i := 156) (by rfl) rfl), (gTb_sel (i := 34) (by rfl)), (gTb_1 (i := 8) (by rfl) rfl), ⟨by decide, by decide, by decide +kernel⟩, by decide⟩
theorem qv_Z_133 : gLv "GossipNodesModel" 133 qy_Z_relayOf qw_Z_relayOf 4 := ⟨qc_Z_relayOf, 8, _, rfl, qi_Z_relayOf, (gTb_3 (i := 178) (by rfl) rfl), (gTb_3 (i := 180) (by rfl) rfl), (gTb_sel (i := 38) (by rfl)), (gTb_1 (i := 8) (by rfl) rfl), ⟨by decide, by decide, by decide +kernel⟩, by decide⟩
theorem qv_Z_137 : gLv "GossipNodesModel" 137 qy_Z_removeRelay qw_Z_removeRelay 2 := ⟨qc_Z_removeRelay, 4, _, rfl, qi_Z_removeRelay, (gTb_3 (i := 182) (by rfl) rfl), (gTb_3 (i := 184) (by rfl) rfl), (gTb_sel (i := 39) (by rfl)), (gTb_1 (i := 8) (by rfl) rfl), ⟨by decide, by decide, by decide +kernel⟩, by decide⟩
theorem qv_Z_141 : gLv "GossipNodesModel" 141 qy_Z_learn qw_Z_learn 5 := ⟨qc_Z_learn, 9, _, rfl, qi_Z_learn, (gTb_3 (i := 170) (by rfl) rfl), (gTb_3 (i := 172) (by rfl) rfl), (gTb_sel (i := 36) (by rfl)), (gTb_1 (i := 8) (by rfl) rfl), ⟨by decide, by decide, by decide +kernel⟩, by decide⟩
theorem qv_Z_144 : gLv "GossipNodesModel" 144 qy_Z_acknowledged qw_Z_acknowledged 4 := ⟨qc_Z_acknowledged, 6, _, rfl, qi_Z_acknowledged, (gTb_3 (i := 174) (by rfl) rfl), (gTb_3 (i := 176) (by rfl) rfl), (gTb_sel (i := 37) (by rfl)), (gTb_1 (i := 8) (by rfl) rfl), ⟨by decide, by decide, by decide +kernel⟩, by decide⟩
theorem qv_Z_147 : gLv "GossipNodesModel" 147 qy_Z_help qw_Z_help 4 := ⟨qc_Z_help, 6, _, rfl, qi_Z_help, (gTb_3 (i := 186) (by rfl) rfl), (gTb_3 (i := 188) (by rfl) rfl), (gTb_sel (i := 40) (by rfl)), (gTb_1 (i := 8) (by rfl) rfl), ⟨by decide, by decide, by decide +kernel⟩, by decide⟩
theorem qs_Z_150 : gLs "GossipNodesModel" 150 qy_Z_count qw_Z_count 1 := ⟨qc_Z_count, 3, _, rfl, qi_Z_count, (gTb_3 (i := 202) (by rfl) rfl), (gTb_3 (i := 203) (by rfl) rfl), (gTb_1 (i := 8) (by rfl) rfl), ⟨by decide, by decide, by decide +kernel⟩, by decide⟩
theorem qv_Z_153 : gLv "GossipNodesModel" 153 qy_Z_nextOf qw_Z_nextOf 4 := ⟨qc_Z_nextOf, 8, _, rfl, qi_Z_nextOf, (gTb_3 (i := 213) (by rfl) rfl), (gTb_3 (i := 215) (by rfl) rfl), (gTb_sel (i := 46) (by rfl)), (gTb_1 (i := 8) (by rfl) rfl), ⟨by decide, by decide, by decide +kernel⟩, by decide⟩
theorem qv_Z_157 : gLv "GossipNodesModel" 157 qy_Z_begin qw_Z_begin 1 := ⟨qc_Z_begin, 3, _, rfl, qi_Z_begin, (gTb_3 (i := 209) (by rfl) rfl), (gTb_3 (i := 211) (by rfl) rfl), (gTb_sel (i := 45) (by rfl)), (gTb_1 (i := 8) (by rfl) rfl), ⟨by decide, by decide, by decide +kernel⟩, by decide⟩
theorem qv_Z_160 : gLv "GossipNodesModel" 160 qy_Z_askOthers qw_Z_askOthers 1 := ⟨qc_Z_askOthers, 4, _, rfl, qi_Z_askOthers, (gTb_3 (i := 217) (by rfl) rfl), (gTb_3 (i := 219) (by rfl) rfl), (gTb_sel (i := 47) (by rfl)), (gTb_1 (i := 8) (by rfl) rfl), ⟨by decide, by decide, by decide +kernel⟩, by decide⟩
theorem qv_Z_163 : gLv "GossipNodesModel" 163 qy_Z_end qw_Z_end 1 := ⟨qc_Z_end, 5, _, rfl, qi_Z_end, (gTb_3 (i := 221) (by rfl) rfl), (gTb_3 (i := 223) (by rfl) rfl), (gTb_sel (i := 48) (by rfl)), (gTb_1 (i := 8) (by rfl) rfl), ⟨by decide, by decide, by decide +kernel⟩, by decide⟩
theorem qv_Z_166 : gLv "GossipNodesModel" 166 qy_Z_ageRelays qw_Z_ageRelays 1 := ⟨qc_Z_ageRelays, 5, _, rfl, qi_Z_ageRelays, (gTb_3 (i := 194) (by rfl) rfl), (gTb_3 (i := 196) (by rfl) rfl), (gTb_sel (i := 42) (by rfl)), (gTb_1 (i := 8) (by rfl) rfl), ⟨by decide, by decide, by decide +kernel⟩, by decide⟩
theorem qv_Z_169 : gLv "GossipNodesModel" 169 qy_Z_expire qw_Z_expire 1 := ⟨qc_Z_expire, 5, _, rfl, qi_Z_expire, (gTb_3 (i := 198) (by rfl) rfl), (gTb_3 (i := 200) (by rfl) rfl), (gTb_sel (i := 43) (by rfl)), (gTb_1 (i := 8) (by rfl) rfl), ⟨by decide, by decide, by decide +kernel⟩, by decide⟩
theorem qv_Z_172 : gLv "GossipNodesModel" 172 qy_Z_probe qw_Z_probe 1 := ⟨qc_Z_probe, 2, _, rfl, qi_Z_probe, (gTb_3 (i := 205) (by rfl) rfl), (gTb_3 (i := 207) (by rfl) rfl), (gTb_sel (i := 44) (by rfl)), (gTb_1 (i := 8) (by rfl) rfl), ⟨by decide, by decide, by decide +kernel⟩, by decide⟩
theorem qv_Z_175 : gLv "GossipNodesModel" 175 qy_Z_arrive qw_Z_arrive 0 := ⟨qc_Z_arrive, 9, _, rfl, qi_Z_arrive, (gTb_3 (i := 166) (by rfl) rfl), (gTb_3 (i := 168) (by rfl) rfl), (gTb_sel (i := 35) (by rfl)), (gTb_1 (i := 8) (by rfl) rfl), ⟨by decide, by decide, by decide +kernel⟩, by decide⟩
theorem qv_Z_179 : gLv "GossipNodesModel" 179 qy_Z_time qw_Z_time 1 := ⟨qc_Z_time, 3, _, rfl, qi_Z_time, (gTb_3 (i := 190) (by rfl) rfl), (gTb_3 (i := 192) (by rfl) rfl), (gTb_sel (i := 41) (by rfl)), (gTb_1 (i := 8) (by rfl) rfl), ⟨by decide, by decide, by decide +kernel⟩, by decide⟩
theorem qv_Z_182 : gLv "GossipNodesModel" 182 qy_Z_newsOf qw_Z_newsOf 1 := ⟨qc_Z_newsOf, 4, _, rfl, qi_Z_newsOf, (gTb_4 (i := 5) (by rfl) rfl), (gTb_4 (i := 7) (by rfl) rfl), (gTb_sel (i := 49) (by rfl)), (gTb_1 (i := 8) (by rfl) rfl), ⟨by decide, by decide, by decide +kernel⟩, by decide⟩
theorem qm_G_9 : Cond.methodLink "GossipNodes" 9 Lib.Math.max.name ∈ gTb := (gTb_1 (i := 18) (by rfl) rfl)
theorem qm_G_15 : Cond.methodLink "GossipNodes" 15 Lib.Math.min.name ∈ gTb := (gTb_1 (i := 21) (by rfl) rfl)
theorem qm_N_184 : Cond.methodLink "GossipNodes$Node" 184 Lib.Math.min.name ∈ gTb := (gTb_2 (i := 112) (by rfl) rfl)
theorem qm_N_234 : Cond.methodLink "GossipNodes$Node" 234 Lib.Math.max.name ∈ gTb := (gTb_2 (i := 185) (by rfl) rfl)
theorem qm_max_s : Cond.static Lib.Math.max.name ∈ gTb := (gTb_1 (i := 19) (by rfl) rfl)
theorem qm_max_c : Cond.code Lib.Math.max.name Lib.Math.max.code 2 (some .int) ∈ gTb := (gTb_1 (i := 20) (by rfl) rfl)
theorem qm_min_s : Cond.static Lib.Math.min.name ∈ gTb := (gTb_1 (i := 22) (by rfl) rfl)
theorem qm_min_c : Cond.code Lib.Math.min.name Lib.Math.min.code 2 (some .int) ∈ gTb := (gTb_1 (i := 23) (by rfl) rfl)
theorem qm_i : Cond.initialized "java/lang/Math" ∈ gTb := (gTb_1 (i := 2) (by rfl) rfl)
theorem qk_J_265 : Cond.constant "java/lang/Integer" 265 (1431655765 : Int32) ∈ gTb := (gTb_2 (i := 162) (by rfl) rfl)
theorem qk_J_266 : Cond.constant "java/lang/Integer" 266 (858993459 : Int32) ∈ gTb := (gTb_2 (i := 163) (by rfl) rfl)
theorem qk_J_267 : Cond.constant "java/lang/Integer" 267 (252645135 : Int32) ∈ gTb := (gTb_2 (i := 164) (by rfl) rfl)
end
