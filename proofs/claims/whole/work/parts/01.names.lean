/-- a private method of a class that the tables say can be made, by its rows of tables_1 -/
def lw_okq (q : MethodName × Nat) : Prop := (q.1.cls ≠ "java/lang/invoke/MethodHandle" ∧ q.1.cls ≠ "java/lang/invoke/VarHandle") ∧ Cond.instantiable q.1.cls q.2 ∈ tables_1 ∧ Cond.privateMethod q.1 ∈ tables_1 ∧ Cond.instanceMethod q.1 ∈ tables_1
theorem lw_p0 : lw_okq (⟨"OrderedPeers", "isNamed", "(I)Z"⟩, 9) := ⟨⟨by decide +kernel, by decide +kernel⟩, List.mem_of_getElem? (i := 11) (by decide +kernel), List.mem_of_getElem? (i := 126) (by decide +kernel), List.mem_of_getElem? (i := 127) (by decide +kernel)⟩
theorem lw_p1 : lw_okq (⟨"OrderedPeers", "addPeer", "(II)I"⟩, 9) := ⟨⟨by decide +kernel, by decide +kernel⟩, List.mem_of_getElem? (i := 11) (by decide +kernel), List.mem_of_getElem? (i := 130) (by decide +kernel), List.mem_of_getElem? (i := 131) (by decide +kernel)⟩
theorem lw_p2 : lw_okq (⟨"OrderedPeers", "peerAt", "(I)LOrderedPeers$Peer;"⟩, 9) := ⟨⟨by decide +kernel, by decide +kernel⟩, List.mem_of_getElem? (i := 11) (by decide +kernel), List.mem_of_getElem? (i := 193) (by decide +kernel), List.mem_of_getElem? (i := 194) (by decide +kernel)⟩
theorem lw_p3 : lw_okq (⟨"OrderedPeers", "howManyIn", "()I"⟩, 9) := ⟨⟨by decide +kernel, by decide +kernel⟩, List.mem_of_getElem? (i := 11) (by decide +kernel), List.mem_of_getElem? (i := 197) (by decide +kernel), List.mem_of_getElem? (i := 198) (by decide +kernel)⟩
theorem lw_p4 : lw_okq (⟨"OrderedPeers", "linkPastFrom", "(LOrderedPeers$Peer;I)V"⟩, 9) := ⟨⟨by decide +kernel, by decide +kernel⟩, List.mem_of_getElem? (i := 11) (by decide +kernel), List.mem_of_getElem? (i := 282) (by decide +kernel), List.mem_of_getElem? (i := 283) (by decide +kernel)⟩
theorem lw_p5 : lw_okq (⟨"OrderedPeers", "sendLink", "(LOrderedPeers$Peer;IILOrderedPeers$Peer;)V"⟩, 9) := ⟨⟨by decide +kernel, by decide +kernel⟩, List.mem_of_getElem? (i := 11) (by decide +kernel), List.mem_of_getElem? (i := 290) (by decide +kernel), List.mem_of_getElem? (i := 291) (by decide +kernel)⟩
theorem lw_p6 : lw_okq (⟨"OrderedPeers", "handOver", "(LOrderedPeers$Peer;)V"⟩, 9) := ⟨⟨by decide +kernel, by decide +kernel⟩, List.mem_of_getElem? (i := 11) (by decide +kernel), List.mem_of_getElem? (i := 295) (by decide +kernel), List.mem_of_getElem? (i := 296) (by decide +kernel)⟩
theorem lw_p7 : lw_okq (⟨"OrderedPeers", "settleChange", "()V"⟩, 9) := ⟨⟨by decide +kernel, by decide +kernel⟩, List.mem_of_getElem? (i := 11) (by decide +kernel), List.mem_of_getElem? (i := 311) (by decide +kernel), List.mem_of_getElem? (i := 312) (by decide +kernel)⟩
theorem lw_p8 : lw_okq (⟨"OrderedPeers", "sendFirstSeek", "(LOrderedPeers$Peer;I)V"⟩, 9) := ⟨⟨by decide +kernel, by decide +kernel⟩, List.mem_of_getElem? (i := 11) (by decide +kernel), List.mem_of_getElem? (i := 315) (by decide +kernel), List.mem_of_getElem? (i := 316) (by decide +kernel)⟩
theorem lw_p9 : lw_okq (⟨"OrderedPeers", "startAsk", "(IIIIJ)I"⟩, 9) := ⟨⟨by decide +kernel, by decide +kernel⟩, List.mem_of_getElem? (i := 11) (by decide +kernel), List.mem_of_getElem? (i := 333) (by decide +kernel), List.mem_of_getElem? (i := 334) (by decide +kernel)⟩
theorem lw_p10 : lw_okq (⟨"OrderedPeers", "takeKey", "(I)Z"⟩, 9) := ⟨⟨by decide +kernel, by decide +kernel⟩, List.mem_of_getElem? (i := 11) (by decide +kernel), List.mem_of_getElem? (i := 337) (by decide +kernel), List.mem_of_getElem? (i := 338) (by decide +kernel)⟩
theorem lw_p11 : lw_okq (⟨"OrderedPeers", "askAt", "(I)LOrderedPeers$Ask;"⟩, 9) := ⟨⟨by decide +kernel, by decide +kernel⟩, List.mem_of_getElem? (i := 11) (by decide +kernel), List.mem_of_getElem? (i := 424) (by decide +kernel), List.mem_of_getElem? (i := 425) (by decide +kernel)⟩
theorem lw_p12 : lw_okq (⟨"OrderedPeers", "canBeTaken", "(LOrderedPeers$Message;)Z"⟩, 9) := ⟨⟨by decide +kernel, by decide +kernel⟩, List.mem_of_getElem? (i := 11) (by decide +kernel), List.mem_of_getElem? (i := 451) (by decide +kernel), List.mem_of_getElem? (i := 452) (by decide +kernel)⟩
theorem lw_p13 : lw_okq (⟨"OrderedPeers", "take", "(I)I"⟩, 9) := ⟨⟨by decide +kernel, by decide +kernel⟩, List.mem_of_getElem? (i := 11) (by decide +kernel), List.mem_of_getElem? (i := 455) (by decide +kernel), List.mem_of_getElem? (i := 456) (by decide +kernel)⟩
theorem lw_p14 : lw_okq (⟨"OrderedPeers", "askComes", "(LOrderedPeers$Ask;LOrderedPeers$Peer;)V"⟩, 9) := ⟨⟨by decide +kernel, by decide +kernel⟩, List.mem_of_getElem? (i := 11) (by decide +kernel), List.mem_of_getElem? (i := 464) (by decide +kernel), List.mem_of_getElem? (i := 465) (by decide +kernel)⟩
theorem lw_p15 : lw_okq (⟨"OrderedPeers", "changeComes", "(LOrderedPeers$Message;)V"⟩, 9) := ⟨⟨by decide +kernel, by decide +kernel⟩, List.mem_of_getElem? (i := 11) (by decide +kernel), List.mem_of_getElem? (i := 513) (by decide +kernel), List.mem_of_getElem? (i := 514) (by decide +kernel)⟩
def lw_privs_1 : List (MethodName × Nat) := [(⟨"OrderedPeers", "isNamed", "(I)Z"⟩, 9), (⟨"OrderedPeers", "addPeer", "(II)I"⟩, 9), (⟨"OrderedPeers", "peerAt", "(I)LOrderedPeers$Peer;"⟩, 9), (⟨"OrderedPeers", "howManyIn", "()I"⟩, 9), (⟨"OrderedPeers", "linkPastFrom", "(LOrderedPeers$Peer;I)V"⟩, 9), (⟨"OrderedPeers", "sendLink", "(LOrderedPeers$Peer;IILOrderedPeers$Peer;)V"⟩, 9), (⟨"OrderedPeers", "handOver", "(LOrderedPeers$Peer;)V"⟩, 9), (⟨"OrderedPeers", "settleChange", "()V"⟩, 9), (⟨"OrderedPeers", "sendFirstSeek", "(LOrderedPeers$Peer;I)V"⟩, 9), (⟨"OrderedPeers", "startAsk", "(IIIIJ)I"⟩, 9), (⟨"OrderedPeers", "takeKey", "(I)Z"⟩, 9), (⟨"OrderedPeers", "askAt", "(I)LOrderedPeers$Ask;"⟩, 9), (⟨"OrderedPeers", "canBeTaken", "(LOrderedPeers$Message;)Z"⟩, 9), (⟨"OrderedPeers", "take", "(I)I"⟩, 9), (⟨"OrderedPeers", "askComes", "(LOrderedPeers$Ask;LOrderedPeers$Peer;)V"⟩, 9), (⟨"OrderedPeers", "changeComes", "(LOrderedPeers$Message;)V"⟩, 9)]
theorem lw_r1 : ∀ q ∈ lw_privs_1, lw_okq q := List.forall_mem_cons.mpr ⟨lw_p0, List.forall_mem_cons.mpr ⟨lw_p1, List.forall_mem_cons.mpr ⟨lw_p2, List.forall_mem_cons.mpr ⟨lw_p3, List.forall_mem_cons.mpr ⟨lw_p4, List.forall_mem_cons.mpr ⟨lw_p5, List.forall_mem_cons.mpr ⟨lw_p6, List.forall_mem_cons.mpr ⟨lw_p7, List.forall_mem_cons.mpr ⟨lw_p8, List.forall_mem_cons.mpr ⟨lw_p9, List.forall_mem_cons.mpr ⟨lw_p10, List.forall_mem_cons.mpr ⟨lw_p11, List.forall_mem_cons.mpr ⟨lw_p12, List.forall_mem_cons.mpr ⟨lw_p13, List.forall_mem_cons.mpr ⟨lw_p14, List.forall_mem_cons.mpr ⟨lw_p15, fun _ h => absurd h List.not_mem_nil⟩⟩⟩⟩⟩⟩⟩⟩⟩⟩⟩⟩⟩⟩⟩⟩
theorem lw_p16 : lw_okq (⟨"OrderedPeers", "joinComes", "(LOrderedPeers$Peer;LOrderedPeers$Peer;)V"⟩, 9) := ⟨⟨by decide +kernel, by decide +kernel⟩, List.mem_of_getElem? (i := 11) (by decide +kernel), List.mem_of_getElem? (i := 517) (by decide +kernel), List.mem_of_getElem? (i := 518) (by decide +kernel)⟩
theorem lw_p17 : lw_okq (⟨"OrderedPeers", "sendGive", "(LOrderedPeers$Peer;LOrderedPeers$Peer;)V"⟩, 9) := ⟨⟨by decide +kernel, by decide +kernel⟩, List.mem_of_getElem? (i := 11) (by decide +kernel), List.mem_of_getElem? (i := 521) (by decide +kernel), List.mem_of_getElem? (i := 522) (by decide +kernel)⟩
theorem lw_p18 : lw_okq (⟨"OrderedPeers", "becomeLinked", "(LOrderedPeers$Peer;I)V"⟩, 9) := ⟨⟨by decide +kernel, by decide +kernel⟩, List.mem_of_getElem? (i := 11) (by decide +kernel), List.mem_of_getElem? (i := 525) (by decide +kernel), List.mem_of_getElem? (i := 526) (by decide +kernel)⟩
theorem lw_p19 : lw_okq (⟨"OrderedPeers", "linkComes", "(LOrderedPeers$Peer;IILOrderedPeers$Peer;)V"⟩, 9) := ⟨⟨by decide +kernel, by decide +kernel⟩, List.mem_of_getElem? (i := 11) (by decide +kernel), List.mem_of_getElem? (i := 529) (by decide +kernel), List.mem_of_getElem? (i := 530) (by decide +kernel)⟩
theorem lw_p20 : lw_okq (⟨"OrderedPeers", "seekComes", "(LOrderedPeers$Peer;LOrderedPeers$Peer;II)V"⟩, 9) := ⟨⟨by decide +kernel, by decide +kernel⟩, List.mem_of_getElem? (i := 11) (by decide +kernel), List.mem_of_getElem? (i := 540) (by decide +kernel), List.mem_of_getElem? (i := 541) (by decide +kernel)⟩
theorem lw_p21 : lw_okq (⟨"OrderedPeers", "sendTell", "(LOrderedPeers$Peer;ILOrderedPeers$Peer;LOrderedPeers$Peer;)V"⟩, 9) := ⟨⟨by decide +kernel, by decide +kernel⟩, List.mem_of_getElem? (i := 11) (by decide +kernel), List.mem_of_getElem? (i := 548) (by decide +kernel), List.mem_of_getElem? (i := 549) (by decide +kernel)⟩
theorem lw_p22 : lw_okq (⟨"OrderedPeers", "firstToTake", "()I"⟩, 9) := ⟨⟨by decide +kernel, by decide +kernel⟩, List.mem_of_getElem? (i := 11) (by decide +kernel), List.mem_of_getElem? (i := 557) (by decide +kernel), List.mem_of_getElem? (i := 558) (by decide +kernel)⟩
theorem lw_p23 : lw_okq (⟨"OrderedPeers", "rankInRow", "(LOrderedPeers$Peer;LOrderedPeers$Peer;I)I"⟩, 9) := ⟨⟨by decide +kernel, by decide +kernel⟩, List.mem_of_getElem? (i := 11) (by decide +kernel), List.mem_of_getElem? (i := 610) (by decide +kernel), List.mem_of_getElem? (i := 611) (by decide +kernel)⟩
theorem lw_p24 : lw_okq (⟨"OrderedPeers", "faultAt", "(LOrderedPeers$Peer;I)I"⟩, 9) := ⟨⟨by decide +kernel, by decide +kernel⟩, List.mem_of_getElem? (i := 11) (by decide +kernel), List.mem_of_getElem? (i := 622) (by decide +kernel), List.mem_of_getElem? (i := 623) (by decide +kernel)⟩
theorem lw_p25 : lw_okq (⟨"OrderedPeers", "isAlone", "(LOrderedPeers$Peer;I)Z"⟩, 9) := ⟨⟨by decide +kernel, by decide +kernel⟩, List.mem_of_getElem? (i := 11) (by decide +kernel), List.mem_of_getElem? (i := 626) (by decide +kernel), List.mem_of_getElem? (i := 627) (by decide +kernel)⟩
theorem lw_p26 : lw_okq (⟨"OrderedPeers", "nextInRow", "(LOrderedPeers$Peer;II)LOrderedPeers$Peer;"⟩, 9) := ⟨⟨by decide +kernel, by decide +kernel⟩, List.mem_of_getElem? (i := 11) (by decide +kernel), List.mem_of_getElem? (i := 630) (by decide +kernel), List.mem_of_getElem? (i := 631) (by decide +kernel)⟩
theorem lw_p27 : lw_okq (⟨"OrderedPeers", "howManyEnded", "(Z)I"⟩, 9) := ⟨⟨by decide +kernel, by decide +kernel⟩, List.mem_of_getElem? (i := 11) (by decide +kernel), List.mem_of_getElem? (i := 651) (by decide +kernel), List.mem_of_getElem? (i := 652) (by decide +kernel)⟩
theorem lw_p28 : lw_okq (⟨"OrderedPeersModel", "isName", "(I)Z"⟩, 48) := ⟨⟨by decide +kernel, by decide +kernel⟩, List.mem_of_getElem? (i := 655) (by decide +kernel), List.mem_of_getElem? (i := 810) (by decide +kernel), List.mem_of_getElem? (i := 811) (by decide +kernel)⟩
theorem lw_p29 : lw_okq (⟨"OrderedPeersModel", "made", "(II)I"⟩, 48) := ⟨⟨by decide +kernel, by decide +kernel⟩, List.mem_of_getElem? (i := 655) (by decide +kernel), List.mem_of_getElem? (i := 818) (by decide +kernel), List.mem_of_getElem? (i := 819) (by decide +kernel)⟩
theorem lw_p30 : lw_okq (⟨"OrderedPeersModel", "noPlaces", "(II)V"⟩, 48) := ⟨⟨by decide +kernel, by decide +kernel⟩, List.mem_of_getElem? (i := 655) (by decide +kernel), List.mem_of_getElem? (i := 822) (by decide +kernel), List.mem_of_getElem? (i := 823) (by decide +kernel)⟩
theorem lw_p31 : lw_okq (⟨"OrderedPeersModel", "isPeer", "(I)Z"⟩, 48) := ⟨⟨by decide +kernel, by decide +kernel⟩, List.mem_of_getElem? (i := 655) (by decide +kernel), List.mem_of_getElem? (i := 839) (by decide +kernel), List.mem_of_getElem? (i := 840) (by decide +kernel)⟩
def lw_privs_2 : List (MethodName × Nat) := [(⟨"OrderedPeers", "joinComes", "(LOrderedPeers$Peer;LOrderedPeers$Peer;)V"⟩, 9), (⟨"OrderedPeers", "sendGive", "(LOrderedPeers$Peer;LOrderedPeers$Peer;)V"⟩, 9), (⟨"OrderedPeers", "becomeLinked", "(LOrderedPeers$Peer;I)V"⟩, 9), (⟨"OrderedPeers", "linkComes", "(LOrderedPeers$Peer;IILOrderedPeers$Peer;)V"⟩, 9), (⟨"OrderedPeers", "seekComes", "(LOrderedPeers$Peer;LOrderedPeers$Peer;II)V"⟩, 9), (⟨"OrderedPeers", "sendTell", "(LOrderedPeers$Peer;ILOrderedPeers$Peer;LOrderedPeers$Peer;)V"⟩, 9), (⟨"OrderedPeers", "firstToTake", "()I"⟩, 9), (⟨"OrderedPeers", "rankInRow", "(LOrderedPeers$Peer;LOrderedPeers$Peer;I)I"⟩, 9), (⟨"OrderedPeers", "faultAt", "(LOrderedPeers$Peer;I)I"⟩, 9), (⟨"OrderedPeers", "isAlone", "(LOrderedPeers$Peer;I)Z"⟩, 9), (⟨"OrderedPeers", "nextInRow", "(LOrderedPeers$Peer;II)LOrderedPeers$Peer;"⟩, 9), (⟨"OrderedPeers", "howManyEnded", "(Z)I"⟩, 9), (⟨"OrderedPeersModel", "isName", "(I)Z"⟩, 48), (⟨"OrderedPeersModel", "made", "(II)I"⟩, 48), (⟨"OrderedPeersModel", "noPlaces", "(II)V"⟩, 48), (⟨"OrderedPeersModel", "isPeer", "(I)Z"⟩, 48)]
theorem lw_r2 : ∀ q ∈ lw_privs_2, lw_okq q := List.forall_mem_cons.mpr ⟨lw_p16, List.forall_mem_cons.mpr ⟨lw_p17, List.forall_mem_cons.mpr ⟨lw_p18, List.forall_mem_cons.mpr ⟨lw_p19, List.forall_mem_cons.mpr ⟨lw_p20, List.forall_mem_cons.mpr ⟨lw_p21, List.forall_mem_cons.mpr ⟨lw_p22, List.forall_mem_cons.mpr ⟨lw_p23, List.forall_mem_cons.mpr ⟨lw_p24, List.forall_mem_cons.mpr ⟨lw_p25, List.forall_mem_cons.mpr ⟨lw_p26, List.forall_mem_cons.mpr ⟨lw_p27, List.forall_mem_cons.mpr ⟨lw_p28, List.forall_mem_cons.mpr ⟨lw_p29, List.forall_mem_cons.mpr ⟨lw_p30, List.forall_mem_cons.mpr ⟨lw_p31, fun _ h => absurd h List.not_mem_nil⟩⟩⟩⟩⟩⟩⟩⟩⟩⟩⟩⟩⟩⟩⟩⟩
theorem lw_p32 : lw_okq (⟨"OrderedPeersModel", "inMany", "()I"⟩, 48) := ⟨⟨by decide +kernel, by decide +kernel⟩, List.mem_of_getElem? (i := 655) (by decide +kernel), List.mem_of_getElem? (i := 843) (by decide +kernel), List.mem_of_getElem? (i := 844) (by decide +kernel)⟩
theorem lw_p33 : lw_okq (⟨"OrderedPeersModel", "place", "(IIII)V"⟩, 48) := ⟨⟨by decide +kernel, by decide +kernel⟩, List.mem_of_getElem? (i := 655) (by decide +kernel), List.mem_of_getElem? (i := 847) (by decide +kernel), List.mem_of_getElem? (i := 848) (by decide +kernel)⟩
theorem lw_p34 : lw_okq (⟨"OrderedPeersModel", "send", "(IIIIIII)V"⟩, 48) := ⟨⟨by decide +kernel, by decide +kernel⟩, List.mem_of_getElem? (i := 655) (by decide +kernel), List.mem_of_getElem? (i := 851) (by decide +kernel), List.mem_of_getElem? (i := 852) (by decide +kernel)⟩
theorem lw_p35 : lw_okq (⟨"OrderedPeersModel", "unlinks", "(II)V"⟩, 48) := ⟨⟨by decide +kernel, by decide +kernel⟩, List.mem_of_getElem? (i := 655) (by decide +kernel), List.mem_of_getElem? (i := 859) (by decide +kernel), List.mem_of_getElem? (i := 860) (by decide +kernel)⟩
theorem lw_p36 : lw_okq (⟨"OrderedPeersModel", "leftOf", "(II)I"⟩, 48) := ⟨⟨by decide +kernel, by decide +kernel⟩, List.mem_of_getElem? (i := 655) (by decide +kernel), List.mem_of_getElem? (i := 863) (by decide +kernel), List.mem_of_getElem? (i := 864) (by decide +kernel)⟩
theorem lw_p37 : lw_okq (⟨"OrderedPeersModel", "rightOf", "(II)I"⟩, 48) := ⟨⟨by decide +kernel, by decide +kernel⟩, List.mem_of_getElem? (i := 655) (by decide +kernel), List.mem_of_getElem? (i := 867) (by decide +kernel), List.mem_of_getElem? (i := 868) (by decide +kernel)⟩
theorem lw_p38 : lw_okq (⟨"OrderedPeersModel", "looksOver", "()V"⟩, 48) := ⟨⟨by decide +kernel, by decide +kernel⟩, List.mem_of_getElem? (i := 655) (by decide +kernel), List.mem_of_getElem? (i := 871) (by decide +kernel), List.mem_of_getElem? (i := 872) (by decide +kernel)⟩
theorem lw_p39 : lw_okq (⟨"OrderedPeersModel", "changeMessages", "()I"⟩, 48) := ⟨⟨by decide +kernel, by decide +kernel⟩, List.mem_of_getElem? (i := 655) (by decide +kernel), List.mem_of_getElem? (i := 875) (by decide +kernel), List.mem_of_getElem? (i := 876) (by decide +kernel)⟩
theorem lw_p40 : lw_okq (⟨"OrderedPeersModel", "seeks", "(II)V"⟩, 48) := ⟨⟨by decide +kernel, by decide +kernel⟩, List.mem_of_getElem? (i := 655) (by decide +kernel), List.mem_of_getElem? (i := 879) (by decide +kernel), List.mem_of_getElem? (i := 880) (by decide +kernel)⟩
theorem lw_p41 : lw_okq (⟨"OrderedPeersModel", "askOf", "(IIIIJ)I"⟩, 48) := ⟨⟨by decide +kernel, by decide +kernel⟩, List.mem_of_getElem? (i := 655) (by decide +kernel), List.mem_of_getElem? (i := 891) (by decide +kernel), List.mem_of_getElem? (i := 892) (by decide +kernel)⟩
theorem lw_p42 : lw_okq (⟨"OrderedPeersModel", "isAsk", "(I)Z"⟩, 48) := ⟨⟨by decide +kernel, by decide +kernel⟩, List.mem_of_getElem? (i := 655) (by decide +kernel), List.mem_of_getElem? (i := 915) (by decide +kernel), List.mem_of_getElem? (i := 916) (by decide +kernel)⟩
theorem lw_p43 : lw_okq (⟨"OrderedPeersModel", "mayCome", "(I)Z"⟩, 48) := ⟨⟨by decide +kernel, by decide +kernel⟩, List.mem_of_getElem? (i := 655) (by decide +kernel), List.mem_of_getElem? (i := 936) (by decide +kernel), List.mem_of_getElem? (i := 937) (by decide +kernel)⟩
theorem lw_p44 : lw_okq (⟨"OrderedPeersModel", "come", "(I)V"⟩, 48) := ⟨⟨by decide +kernel, by decide +kernel⟩, List.mem_of_getElem? (i := 655) (by decide +kernel), List.mem_of_getElem? (i := 940) (by decide +kernel), List.mem_of_getElem? (i := 941) (by decide +kernel)⟩
theorem lw_p45 : lw_okq (⟨"OrderedPeersModel", "gone", "(I)V"⟩, 48) := ⟨⟨by decide +kernel, by decide +kernel⟩, List.mem_of_getElem? (i := 655) (by decide +kernel), List.mem_of_getElem? (i := 944) (by decide +kernel), List.mem_of_getElem? (i := 945) (by decide +kernel)⟩
theorem lw_p46 : lw_okq (⟨"OrderedPeersModel", "comesJoin", "(II)V"⟩, 48) := ⟨⟨by decide +kernel, by decide +kernel⟩, List.mem_of_getElem? (i := 655) (by decide +kernel), List.mem_of_getElem? (i := 948) (by decide +kernel), List.mem_of_getElem? (i := 949) (by decide +kernel)⟩
theorem lw_p47 : lw_okq (⟨"OrderedPeersModel", "aims", "(IJ)I"⟩, 48) := ⟨⟨by decide +kernel, by decide +kernel⟩, List.mem_of_getElem? (i := 655) (by decide +kernel), List.mem_of_getElem? (i := 952) (by decide +kernel), List.mem_of_getElem? (i := 953) (by decide +kernel)⟩
def lw_privs_3 : List (MethodName × Nat) := [(⟨"OrderedPeersModel", "inMany", "()I"⟩, 48), (⟨"OrderedPeersModel", "place", "(IIII)V"⟩, 48), (⟨"OrderedPeersModel", "send", "(IIIIIII)V"⟩, 48), (⟨"OrderedPeersModel", "unlinks", "(II)V"⟩, 48), (⟨"OrderedPeersModel", "leftOf", "(II)I"⟩, 48), (⟨"OrderedPeersModel", "rightOf", "(II)I"⟩, 48), (⟨"OrderedPeersModel", "looksOver", "()V"⟩, 48), (⟨"OrderedPeersModel", "changeMessages", "()I"⟩, 48), (⟨"OrderedPeersModel", "seeks", "(II)V"⟩, 48), (⟨"OrderedPeersModel", "askOf", "(IIIIJ)I"⟩, 48), (⟨"OrderedPeersModel", "isAsk", "(I)Z"⟩, 48), (⟨"OrderedPeersModel", "mayCome", "(I)Z"⟩, 48), (⟨"OrderedPeersModel", "come", "(I)V"⟩, 48), (⟨"OrderedPeersModel", "gone", "(I)V"⟩, 48), (⟨"OrderedPeersModel", "comesJoin", "(II)V"⟩, 48), (⟨"OrderedPeersModel", "aims", "(IJ)I"⟩, 48)]
theorem lw_r3 : ∀ q ∈ lw_privs_3, lw_okq q := List.forall_mem_cons.mpr ⟨lw_p32, List.forall_mem_cons.mpr ⟨lw_p33, List.forall_mem_cons.mpr ⟨lw_p34, List.forall_mem_cons.mpr ⟨lw_p35, List.forall_mem_cons.mpr ⟨lw_p36, List.forall_mem_cons.mpr ⟨lw_p37, List.forall_mem_cons.mpr ⟨lw_p38, List.forall_mem_cons.mpr ⟨lw_p39, List.forall_mem_cons.mpr ⟨lw_p40, List.forall_mem_cons.mpr ⟨lw_p41, List.forall_mem_cons.mpr ⟨lw_p42, List.forall_mem_cons.mpr ⟨lw_p43, List.forall_mem_cons.mpr ⟨lw_p44, List.forall_mem_cons.mpr ⟨lw_p45, List.forall_mem_cons.mpr ⟨lw_p46, List.forall_mem_cons.mpr ⟨lw_p47, fun _ h => absurd h List.not_mem_nil⟩⟩⟩⟩⟩⟩⟩⟩⟩⟩⟩⟩⟩⟩⟩⟩
theorem lw_p48 : lw_okq (⟨"OrderedPeersModel", "remove", "(II)V"⟩, 48) := ⟨⟨by decide +kernel, by decide +kernel⟩, List.mem_of_getElem? (i := 655) (by decide +kernel), List.mem_of_getElem? (i := 956) (by decide +kernel), List.mem_of_getElem? (i := 957) (by decide +kernel)⟩
theorem lw_p49 : lw_okq (⟨"OrderedPeersModel", "unpack", "(I)V"⟩, 48) := ⟨⟨by decide +kernel, by decide +kernel⟩, List.mem_of_getElem? (i := 655) (by decide +kernel), List.mem_of_getElem? (i := 960) (by decide +kernel), List.mem_of_getElem? (i := 961) (by decide +kernel)⟩
theorem lw_p50 : lw_okq (⟨"OrderedPeersModel", "store", "(IIJ)V"⟩, 48) := ⟨⟨by decide +kernel, by decide +kernel⟩, List.mem_of_getElem? (i := 655) (by decide +kernel), List.mem_of_getElem? (i := 964) (by decide +kernel), List.mem_of_getElem? (i := 965) (by decide +kernel)⟩
theorem lw_p51 : lw_okq (⟨"OrderedPeersModel", "linked", "(II)V"⟩, 48) := ⟨⟨by decide +kernel, by decide +kernel⟩, List.mem_of_getElem? (i := 655) (by decide +kernel), List.mem_of_getElem? (i := 968) (by decide +kernel), List.mem_of_getElem? (i := 969) (by decide +kernel)⟩
theorem lw_p52 : lw_okq (⟨"OrderedPeersModel", "comesLink", "(IIII)V"⟩, 48) := ⟨⟨by decide +kernel, by decide +kernel⟩, List.mem_of_getElem? (i := 655) (by decide +kernel), List.mem_of_getElem? (i := 972) (by decide +kernel), List.mem_of_getElem? (i := 973) (by decide +kernel)⟩
theorem lw_p53 : lw_okq (⟨"OrderedPeersModel", "comesSeek", "(IIII)V"⟩, 48) := ⟨⟨by decide +kernel, by decide +kernel⟩, List.mem_of_getElem? (i := 655) (by decide +kernel), List.mem_of_getElem? (i := 976) (by decide +kernel), List.mem_of_getElem? (i := 977) (by decide +kernel)⟩
theorem lw_p54 : lw_okq (⟨"OrderedPeersModel", "areLike", "(III)Z"⟩, 48) := ⟨⟨by decide +kernel, by decide +kernel⟩, List.mem_of_getElem? (i := 655) (by decide +kernel), List.mem_of_getElem? (i := 980) (by decide +kernel), List.mem_of_getElem? (i := 981) (by decide +kernel)⟩
theorem lw_p55 : lw_okq (⟨"OrderedPeersModel", "comesAsk", "(II)V"⟩, 48) := ⟨⟨by decide +kernel, by decide +kernel⟩, List.mem_of_getElem? (i := 655) (by decide +kernel), List.mem_of_getElem? (i := 984) (by decide +kernel), List.mem_of_getElem? (i := 985) (by decide +kernel)⟩
theorem lw_p56 : lw_okq (⟨"OrderedPeersModel", "ends", "(II)V"⟩, 48) := ⟨⟨by decide +kernel, by decide +kernel⟩, List.mem_of_getElem? (i := 655) (by decide +kernel), List.mem_of_getElem? (i := 988) (by decide +kernel), List.mem_of_getElem? (i := 989) (by decide +kernel)⟩
theorem lw_p57 : lw_okq (⟨"OrderedPeersModel", "isThere", "(II)V"⟩, 48) := ⟨⟨by decide +kernel, by decide +kernel⟩, List.mem_of_getElem? (i := 655) (by decide +kernel), List.mem_of_getElem? (i := 992) (by decide +kernel), List.mem_of_getElem? (i := 993) (by decide +kernel)⟩
theorem lw_p58 : lw_okq (⟨"OrderedPeersModel", "placeOf", "(II)I"⟩, 48) := ⟨⟨by decide +kernel, by decide +kernel⟩, List.mem_of_getElem? (i := 655) (by decide +kernel), List.mem_of_getElem? (i := 996) (by decide +kernel), List.mem_of_getElem? (i := 997) (by decide +kernel)⟩
theorem lw_p59 : lw_okq (⟨"OrderedPeersModel", "firstThatMay", "()I"⟩, 48) := ⟨⟨by decide +kernel, by decide +kernel⟩, List.mem_of_getElem? (i := 655) (by decide +kernel), List.mem_of_getElem? (i := 1005) (by decide +kernel), List.mem_of_getElem? (i := 1006) (by decide +kernel)⟩
theorem lw_p60 : lw_okq (⟨"OrderedPeersModel", "judge", "()V"⟩, 48) := ⟨⟨by decide +kernel, by decide +kernel⟩, List.mem_of_getElem? (i := 655) (by decide +kernel), List.mem_of_getElem? (i := 1046) (by decide +kernel), List.mem_of_getElem? (i := 1047) (by decide +kernel)⟩
theorem lw_p61 : lw_okq (⟨"OrderedPeersModel", "next", "(III)I"⟩, 48) := ⟨⟨by decide +kernel, by decide +kernel⟩, List.mem_of_getElem? (i := 655) (by decide +kernel), List.mem_of_getElem? (i := 1050) (by decide +kernel), List.mem_of_getElem? (i := 1051) (by decide +kernel)⟩
def lw_privs_4 : List (MethodName × Nat) := [(⟨"OrderedPeersModel", "remove", "(II)V"⟩, 48), (⟨"OrderedPeersModel", "unpack", "(I)V"⟩, 48), (⟨"OrderedPeersModel", "store", "(IIJ)V"⟩, 48), (⟨"OrderedPeersModel", "linked", "(II)V"⟩, 48), (⟨"OrderedPeersModel", "comesLink", "(IIII)V"⟩, 48), (⟨"OrderedPeersModel", "comesSeek", "(IIII)V"⟩, 48), (⟨"OrderedPeersModel", "areLike", "(III)Z"⟩, 48), (⟨"OrderedPeersModel", "comesAsk", "(II)V"⟩, 48), (⟨"OrderedPeersModel", "ends", "(II)V"⟩, 48), (⟨"OrderedPeersModel", "isThere", "(II)V"⟩, 48), (⟨"OrderedPeersModel", "placeOf", "(II)I"⟩, 48), (⟨"OrderedPeersModel", "firstThatMay", "()I"⟩, 48), (⟨"OrderedPeersModel", "judge", "()V"⟩, 48), (⟨"OrderedPeersModel", "next", "(III)I"⟩, 48)]
theorem lw_r4 : ∀ q ∈ lw_privs_4, lw_okq q := List.forall_mem_cons.mpr ⟨lw_p48, List.forall_mem_cons.mpr ⟨lw_p49, List.forall_mem_cons.mpr ⟨lw_p50, List.forall_mem_cons.mpr ⟨lw_p51, List.forall_mem_cons.mpr ⟨lw_p52, List.forall_mem_cons.mpr ⟨lw_p53, List.forall_mem_cons.mpr ⟨lw_p54, List.forall_mem_cons.mpr ⟨lw_p55, List.forall_mem_cons.mpr ⟨lw_p56, List.forall_mem_cons.mpr ⟨lw_p57, List.forall_mem_cons.mpr ⟨lw_p58, List.forall_mem_cons.mpr ⟨lw_p59, List.forall_mem_cons.mpr ⟨lw_p60, List.forall_mem_cons.mpr ⟨lw_p61, fun _ h => absurd h List.not_mem_nil⟩⟩⟩⟩⟩⟩⟩⟩⟩⟩⟩⟩⟩⟩
def lw_privs : List (MethodName × Nat) := lw_privs_1 ++ (lw_privs_2 ++ (lw_privs_3 ++ (lw_privs_4)))
def lw_tbl : List Cond := k2_sels lw_privs ++ tables_1
theorem lw_privs_ok : ∀ q ∈ lw_privs, lw_okq q := by
  show ∀ q ∈ lw_privs_1 ++ (lw_privs_2 ++ (lw_privs_3 ++ (lw_privs_4))), lw_okq q
  exact List.forall_mem_append.mpr ⟨lw_r1, List.forall_mem_append.mpr ⟨lw_r2, List.forall_mem_append.mpr ⟨lw_r3, lw_r4⟩⟩⟩

def RX0 : String := "OrderedPeers$Ask"
def TX0 : u_T := fun k => match k with
  | 0 => ("OrderedPeers$Ask", "number", "I", true)
  | 1 => ("OrderedPeers$Ask", "sort", "I", true)
  | 2 => ("OrderedPeers$Ask", "low", "I", true)
  | 3 => ("OrderedPeers$Ask", "high", "I", true)
  | 4 => ("OrderedPeers$Ask", "carried", "J", false)
  | 5 => ("OrderedPeers$Ask", "isThere", "Z", false)
  | 6 => ("OrderedPeers$Ask", "done", "Z", false)
  | 7 => ("OrderedPeers$Ask", "lost", "Z", false)
  | 8 => ("OrderedPeers$Ask", "answer", "I", false)
  | 9 => ("OrderedPeers$Ask", "passes", "I", false)
  | 10 => ("OrderedPeers$Ask", "notes", "I", false)
  | 11 => ("OrderedPeers$Ask", "way", "[B", true)
  | _ => ("OrderedPeers$Ask", "notedOnes", "[B", true)
def tyX0 : Nat → FieldType := fun k => match k with
  | 0 => .int
  | 1 => .int
  | 2 => .int
  | 3 => .int
  | 4 => .long
  | 5 => .boolean
  | 6 => .boolean
  | 7 => .boolean
  | 8 => .int
  | 9 => .int
  | 10 => .int
  | 11 => .array .byte
  | _ => .array .byte
abbrev wsX00 : List Cond := u_ws RX0 TX0 13
theorem nmX0 : ∀ a, a < 13 → ∀ b, b < 13 → a ≠ b → (TX0 a).2.1 ≠ (TX0 b).2.1 := by decide +kernel
theorem tyX0_ok : ∀ k, k < 13 → parseFieldDescriptor (TX0 k).2.2.1 = some (tyX0 k) := by decide +kernel
abbrev cX0_init : ByteArray := prog_2_method_1_code
def yX0_init : MethodName := ⟨RX0, "<init>", "(IIIIJ)V"⟩
abbrev cX0_pass : ByteArray := prog_2_method_2_code
def yX0_pass : MethodName := ⟨RX0, "pass", "(LOrderedPeers$Peer;)V"⟩
abbrev cX0_note : ByteArray := prog_2_method_3_code
def yX0_note : MethodName := ⟨RX0, "note", "(LOrderedPeers$Peer;)V"⟩
abbrev cX0_finish : ByteArray := prog_2_method_4_code
def yX0_finish : MethodName := ⟨RX0, "finish", "(I)V"⟩
abbrev cX0_lose : ByteArray := prog_2_method_5_code
def yX0_lose : MethodName := ⟨RX0, "lose", "()V"⟩
def RX1 : String := "OrderedPeers$Change"
def TX1 : u_T := fun k => match k with
  | 0 => ("OrderedPeers$Change", "kind", "I", false)
  | 1 => ("OrderedPeers$Change", "peer", "LOrderedPeers$Peer;", false)
  | 2 => ("OrderedPeers$Change", "unlinking", "Z", false)
  | 3 => ("OrderedPeers$Change", "newBits", "I", false)
  | _ => ("OrderedPeers$Change", "parcel", "LOrderedPeers$Pairs;", true)
def tyX1 : Nat → FieldType := fun k => match k with
  | 0 => .int
  | 1 => .object "OrderedPeers$Peer"
  | 2 => .boolean
  | 3 => .int
  | _ => .object "OrderedPeers$Pairs"
abbrev wsX10 : List Cond := u_ws RX1 TX1 5
theorem nmX1 : ∀ a, a < 5 → ∀ b, b < 5 → a ≠ b → (TX1 a).2.1 ≠ (TX1 b).2.1 := by decide +kernel
theorem tyX1_ok : ∀ k, k < 5 → parseFieldDescriptor (TX1 k).2.2.1 = some (tyX1 k) := by decide +kernel
abbrev cX1_init : ByteArray := prog_3_method_1_code
def yX1_init : MethodName := ⟨RX1, "<init>", "()V"⟩
abbrev cX1_isOn : ByteArray := prog_3_method_2_code
def yX1_isOn : MethodName := ⟨RX1, "isOn", "()Z"⟩
abbrev cX1_begin : ByteArray := prog_3_method_3_code
def yX1_begin : MethodName := ⟨RX1, "begin", "(ILOrderedPeers$Peer;)V"⟩
def RX2 : String := "OrderedPeers$Line"
def TX2 : u_T := fun k => match k with
  | 0 => ("OrderedPeers$Line", "slots", "[LOrderedPeers$Message;", true)
  | 1 => ("OrderedPeers$Line", "size", "I", false)
  | 2 => ("OrderedPeers$Line", "ofChange", "I", false)
  | _ => ("OrderedPeers$Line", "lastTaken", "LOrderedPeers$Message;", false)
def tyX2 : Nat → FieldType := fun k => match k with
  | 0 => .array (.object "OrderedPeers$Message")
  | 1 => .int
  | 2 => .int
  | _ => .object "OrderedPeers$Message"
abbrev wsX20 : List Cond := u_ws RX2 TX2 4
theorem nmX2 : ∀ a, a < 4 → ∀ b, b < 4 → a ≠ b → (TX2 a).2.1 ≠ (TX2 b).2.1 := by decide +kernel
theorem tyX2_ok : ∀ k, k < 4 → parseFieldDescriptor (TX2 k).2.2.1 = some (tyX2 k) := by decide +kernel
abbrev cX2_init : ByteArray := prog_4_method_1_code
def yX2_init : MethodName := ⟨RX2, "<init>", "()V"⟩
abbrev cX2_at : ByteArray := prog_4_method_2_code
def yX2_at : MethodName := ⟨RX2, "at", "(I)LOrderedPeers$Message;"⟩
abbrev cX2_addAsk : ByteArray := prog_4_method_3_code
def yX2_addAsk : MethodName := ⟨RX2, "addAsk", "(LOrderedPeers$Ask;LOrderedPeers$Peer;)V"⟩
abbrev cX2_addPlain : ByteArray := prog_4_method_4_code
def yX2_addPlain : MethodName := ⟨RX2, "addPlain", "(ILOrderedPeers$Peer;)V"⟩
abbrev cX2_add : ByteArray := prog_4_method_5_code
def yX2_add : MethodName := ⟨RX2, "add", "(LOrderedPeers$Ask;ILOrderedPeers$Peer;IILOrderedPeers$Peer;LOrderedPeers$Peer;)V"⟩
abbrev cX2_takeAway : ByteArray := prog_4_method_6_code
def yX2_takeAway : MethodName := ⟨RX2, "takeAway", "(I)LOrderedPeers$Message;"⟩
def RX3 : String := "OrderedPeers$Message"
def TX3 : u_T := fun k => match k with
  | 0 => ("OrderedPeers$Message", "sort", "I", false)
  | 1 => ("OrderedPeers$Message", "to", "LOrderedPeers$Peer;", false)
  | 2 => ("OrderedPeers$Message", "ask", "LOrderedPeers$Ask;", false)
  | 3 => ("OrderedPeers$Message", "level", "I", false)
  | 4 => ("OrderedPeers$Message", "side", "I", false)
  | 5 => ("OrderedPeers$Message", "left", "LOrderedPeers$Peer;", false)
  | _ => ("OrderedPeers$Message", "right", "LOrderedPeers$Peer;", false)
def tyX3 : Nat → FieldType := fun k => match k with
  | 0 => .int
  | 1 => .object "OrderedPeers$Peer"
  | 2 => .object "OrderedPeers$Ask"
  | 3 => .int
  | 4 => .int
  | 5 => .object "OrderedPeers$Peer"
  | _ => .object "OrderedPeers$Peer"
abbrev wsX30 : List Cond := u_ws RX3 TX3 7
theorem nmX3 : ∀ a, a < 7 → ∀ b, b < 7 → a ≠ b → (TX3 a).2.1 ≠ (TX3 b).2.1 := by decide +kernel
theorem tyX3_ok : ∀ k, k < 7 → parseFieldDescriptor (TX3 k).2.2.1 = some (tyX3 k) := by decide +kernel
abbrev cX3_init : ByteArray := prog_5_method_1_code
def yX3_init : MethodName := ⟨RX3, "<init>", "()V"⟩
def RX4 : String := "OrderedPeers$Pairs"
def TX4 : u_T := fun k => match k with
  | 0 => ("OrderedPeers$Pairs", "keys", "[I", true)
  | 1 => ("OrderedPeers$Pairs", "values", "[J", true)
  | _ => ("OrderedPeers$Pairs", "size", "I", false)
def tyX4 : Nat → FieldType := fun k => match k with
  | 0 => .array .int
  | 1 => .array .long
  | _ => .int
abbrev wsX40 : List Cond := u_ws RX4 TX4 3
theorem nmX4 : ∀ a, a < 3 → ∀ b, b < 3 → a ≠ b → (TX4 a).2.1 ≠ (TX4 b).2.1 := by decide +kernel
theorem tyX4_ok : ∀ k, k < 3 → parseFieldDescriptor (TX4 k).2.2.1 = some (tyX4 k) := by decide +kernel
abbrev cX4_init : ByteArray := prog_6_method_1_code
def yX4_init : MethodName := ⟨RX4, "<init>", "()V"⟩
abbrev cX4_below : ByteArray := prog_6_method_2_code
def yX4_below : MethodName := ⟨RX4, "below", "(I)I"⟩
abbrev cX4_holds : ByteArray := prog_6_method_3_code
def yX4_holds : MethodName := ⟨RX4, "holds", "(I)Z"⟩
abbrev cX4_keyAt : ByteArray := prog_6_method_4_code
def yX4_keyAt : MethodName := ⟨RX4, "keyAt", "(I)I"⟩
abbrev cX4_valueAt : ByteArray := prog_6_method_5_code
def yX4_valueAt : MethodName := ⟨RX4, "valueAt", "(I)J"⟩
abbrev cX4_set : ByteArray := prog_6_method_6_code
def yX4_set : MethodName := ⟨RX4, "set", "(IJ)V"⟩
abbrev cX4_moveTo : ByteArray := prog_6_method_7_code
def yX4_moveTo : MethodName := ⟨RX4, "moveTo", "(LOrderedPeers$Pairs;II)V"⟩
def RX5 : String := "OrderedPeers$Peer"
def TX5 : u_T := fun k => match k with
  | 0 => ("OrderedPeers$Peer", "number", "I", true)
  | 1 => ("OrderedPeers$Peer", "name", "I", true)
  | 2 => ("OrderedPeers$Peer", "bits", "I", false)
  | 3 => ("OrderedPeers$Peer", "being", "I", false)
  | 4 => ("OrderedPeers$Peer", "load", "I", false)
  | 5 => ("OrderedPeers$Peer", "placed", "[Z", true)
  | 6 => ("OrderedPeers$Peer", "nexts", "[LOrderedPeers$Peer;", true)
  | 7 => ("OrderedPeers$Peer", "lastLeft", "LOrderedPeers$Peer;", false)
  | 8 => ("OrderedPeers$Peer", "lastRight", "LOrderedPeers$Peer;", false)
  | _ => ("OrderedPeers$Peer", "pairs", "LOrderedPeers$Pairs;", true)
def tyX5 : Nat → FieldType := fun k => match k with
  | 0 => .int
  | 1 => .int
  | 2 => .int
  | 3 => .int
  | 4 => .int
  | 5 => .array .boolean
  | 6 => .array (.object "OrderedPeers$Peer")
  | 7 => .object "OrderedPeers$Peer"
  | 8 => .object "OrderedPeers$Peer"
  | _ => .object "OrderedPeers$Pairs"
abbrev wsX50 : List Cond := u_ws RX5 TX5 10
theorem nmX5 : ∀ a, a < 10 → ∀ b, b < 10 → a ≠ b → (TX5 a).2.1 ≠ (TX5 b).2.1 := by decide +kernel
theorem tyX5_ok : ∀ k, k < 10 → parseFieldDescriptor (TX5 k).2.2.1 = some (tyX5 k) := by decide +kernel
abbrev cX5_init : ByteArray := prog_7_method_1_code
def yX5_init : MethodName := ⟨RX5, "<init>", "(III)V"⟩
abbrev cX5_isAway : ByteArray := prog_7_method_2_code
def yX5_isAway : MethodName := ⟨RX5, "isAway", "()Z"⟩
abbrev cX5_startsAs : ByteArray := prog_7_method_3_code
def yX5_startsAs : MethodName := ⟨RX5, "startsAs", "(LOrderedPeers$Peer;I)Z"⟩
abbrev cX5_isBeyond : ByteArray := prog_7_method_4_code
def yX5_isBeyond : MethodName := ⟨RX5, "isBeyond", "(LOrderedPeers$Peer;I)Z"⟩
abbrev cX5_hasPlace : ByteArray := prog_7_method_5_code
def yX5_hasPlace : MethodName := ⟨RX5, "hasPlace", "(I)Z"⟩
abbrev cX5_next : ByteArray := prog_7_method_6_code
def yX5_next : MethodName := ⟨RX5, "next", "(II)LOrderedPeers$Peer;"⟩
abbrev cX5_hasSomebody : ByteArray := prog_7_method_7_code
def yX5_hasSomebody : MethodName := ⟨RX5, "hasSomebody", "(I)Z"⟩
abbrev cX5_makePlace : ByteArray := prog_7_method_8_code
def yX5_makePlace : MethodName := ⟨RX5, "makePlace", "(I)V"⟩
abbrev cX5_setNext : ByteArray := prog_7_method_9_code
def yX5_setNext : MethodName := ⟨RX5, "setNext", "(IILOrderedPeers$Peer;)V"⟩
abbrev cX5_setPlace : ByteArray := prog_7_method_10_code
def yX5_setPlace : MethodName := ⟨RX5, "setPlace", "(ILOrderedPeers$Peer;LOrderedPeers$Peer;)V"⟩
abbrev cX5_dropPlacesFrom : ByteArray := prog_7_method_11_code
def yX5_dropPlacesFrom : MethodName := ⟨RX5, "dropPlacesFrom", "(I)V"⟩
abbrev cX5_placesHeld : ByteArray := prog_7_method_12_code
def yX5_placesHeld : MethodName := ⟨RX5, "placesHeld", "()I"⟩
abbrev cX5_comeIn : ByteArray := prog_7_method_13_code
def yX5_comeIn : MethodName := ⟨RX5, "comeIn", "(LOrderedPeers$Peer;LOrderedPeers$Peer;)V"⟩
abbrev cX5_goOut : ByteArray := prog_7_method_14_code
def yX5_goOut : MethodName := ⟨RX5, "goOut", "()V"⟩
abbrev cX5_onward : ByteArray := prog_7_method_15_code
def yX5_onward : MethodName := ⟨RX5, "onward", "(I)LOrderedPeers$Peer;"⟩
def RX6 : String := "OrderedPeers"
def TX6 : u_T := fun k => match k with
  | 0 => ("OrderedPeers", "peers", "[LOrderedPeers$Peer;", true)
  | 1 => ("OrderedPeers", "peerCount", "I", false)
  | 2 => ("OrderedPeers", "asks", "[LOrderedPeers$Ask;", true)
  | 3 => ("OrderedPeers", "askCount", "I", false)
  | 4 => ("OrderedPeers", "keysPut", "[I", true)
  | 5 => ("OrderedPeers", "keyCount", "I", false)
  | 6 => ("OrderedPeers", "line", "LOrderedPeers$Line;", true)
  | 7 => ("OrderedPeers", "change", "LOrderedPeers$Change;", true)
  | _ => ("OrderedPeers", "draw", "I", false)
def tyX6 : Nat → FieldType := fun k => match k with
  | 0 => .array (.object "OrderedPeers$Peer")
  | 1 => .int
  | 2 => .array (.object "OrderedPeers$Ask")
  | 3 => .int
  | 4 => .array .int
  | 5 => .int
  | 6 => .object "OrderedPeers$Line"
  | 7 => .object "OrderedPeers$Change"
  | _ => .int
abbrev wsX60 : List Cond := u_ws RX6 TX6 9
theorem nmX6 : ∀ a, a < 9 → ∀ b, b < 9 → a ≠ b → (TX6 a).2.1 ≠ (TX6 b).2.1 := by decide +kernel
theorem tyX6_ok : ∀ k, k < 9 → parseFieldDescriptor (TX6 k).2.2.1 = some (tyX6 k) := by decide +kernel
abbrev cX6_init : ByteArray := prog_1_method_1_code
def yX6_init : MethodName := ⟨RX6, "<init>", "()V"⟩
abbrev cX6_peer : ByteArray := prog_1_method_2_code
def yX6_peer : MethodName := ⟨RX6, "peer", "(II)I"⟩
abbrev cX6_drawn : ByteArray := prog_1_method_3_code
def yX6_drawn : MethodName := ⟨RX6, "drawn", "(I)I"⟩
abbrev cX6_seed : ByteArray := prog_1_method_4_code
def yX6_seed : MethodName := ⟨RX6, "seed", "(I)I"⟩
abbrev cX6_addPeer : ByteArray := prog_1_method_5_code
def yX6_addPeer : MethodName := ⟨RX6, "addPeer", "(II)I"⟩
abbrev cX6_isNamed : ByteArray := prog_1_method_6_code
def yX6_isNamed : MethodName := ⟨RX6, "isNamed", "(I)Z"⟩
abbrev cX6_peerAt : ByteArray := prog_1_method_7_code
def yX6_peerAt : MethodName := ⟨RX6, "peerAt", "(I)LOrderedPeers$Peer;"⟩
abbrev cX6_howManyIn : ByteArray := prog_1_method_8_code
def yX6_howManyIn : MethodName := ⟨RX6, "howManyIn", "()I"⟩
abbrev cX6_join : ByteArray := prog_1_method_9_code
def yX6_join : MethodName := ⟨RX6, "join", "(II)I"⟩
abbrev cX6_leave : ByteArray := prog_1_method_10_code
def yX6_leave : MethodName := ⟨RX6, "leave", "(I)I"⟩
abbrev cX6_again : ByteArray := prog_1_method_11_code
def yX6_again : MethodName := ⟨RX6, "again", "(II)I"⟩
abbrev cX6_linkPastFrom : ByteArray := prog_1_method_12_code
def yX6_linkPastFrom : MethodName := ⟨RX6, "linkPastFrom", "(LOrderedPeers$Peer;I)V"⟩
abbrev cX6_handOver : ByteArray := prog_1_method_13_code
def yX6_handOver : MethodName := ⟨RX6, "handOver", "(LOrderedPeers$Peer;)V"⟩
abbrev cX6_sendLink : ByteArray := prog_1_method_14_code
def yX6_sendLink : MethodName := ⟨RX6, "sendLink", "(LOrderedPeers$Peer;IILOrderedPeers$Peer;)V"⟩
abbrev cX6_settleChange : ByteArray := prog_1_method_15_code
def yX6_settleChange : MethodName := ⟨RX6, "settleChange", "()V"⟩
abbrev cX6_find : ByteArray := prog_1_method_16_code
def yX6_find : MethodName := ⟨RX6, "find", "(II)I"⟩
abbrev cX6_span : ByteArray := prog_1_method_17_code
def yX6_span : MethodName := ⟨RX6, "span", "(III)I"⟩
abbrev cX6_tally : ByteArray := prog_1_method_18_code
def yX6_tally : MethodName := ⟨RX6, "tally", "(III)I"⟩
abbrev cX6_put : ByteArray := prog_1_method_19_code
def yX6_put : MethodName := ⟨RX6, "put", "(IIJ)I"⟩
abbrev cX6_get : ByteArray := prog_1_method_20_code
def yX6_get : MethodName := ⟨RX6, "get", "(II)I"⟩
abbrev cX6_startAsk : ByteArray := prog_1_method_21_code
def yX6_startAsk : MethodName := ⟨RX6, "startAsk", "(IIIIJ)I"⟩
abbrev cX6_takeKey : ByteArray := prog_1_method_22_code
def yX6_takeKey : MethodName := ⟨RX6, "takeKey", "(I)Z"⟩
abbrev cX6_askAt : ByteArray := prog_1_method_23_code
def yX6_askAt : MethodName := ⟨RX6, "askAt", "(I)LOrderedPeers$Ask;"⟩
abbrev cX6_ask : ByteArray := prog_1_method_24_code
def yX6_ask : MethodName := ⟨RX6, "ask", "(II)I"⟩
abbrev cX6_passed : ByteArray := prog_1_method_25_code
def yX6_passed : MethodName := ⟨RX6, "passed", "(II)I"⟩
abbrev cX6_noted : ByteArray := prog_1_method_26_code
def yX6_noted : MethodName := ⟨RX6, "noted", "(II)I"⟩
abbrev cX6_value : ByteArray := prog_1_method_27_code
def yX6_value : MethodName := ⟨RX6, "value", "(I)J"⟩
abbrev cX6_deliver : ByteArray := prog_1_method_28_code
def yX6_deliver : MethodName := ⟨RX6, "deliver", "(I)I"⟩
abbrev cX6_all : ByteArray := prog_1_method_29_code
def yX6_all : MethodName := ⟨RX6, "all", "(I)I"⟩
abbrev cX6_message : ByteArray := prog_1_method_30_code
def yX6_message : MethodName := ⟨RX6, "message", "(II)I"⟩
abbrev cX6_canBeTaken : ByteArray := prog_1_method_31_code
def yX6_canBeTaken : MethodName := ⟨RX6, "canBeTaken", "(LOrderedPeers$Message;)Z"⟩
abbrev cX6_firstToTake : ByteArray := prog_1_method_32_code
def yX6_firstToTake : MethodName := ⟨RX6, "firstToTake", "()I"⟩
abbrev cX6_take : ByteArray := prog_1_method_33_code
def yX6_take : MethodName := ⟨RX6, "take", "(I)I"⟩
abbrev cX6_askComes : ByteArray := prog_1_method_34_code
def yX6_askComes : MethodName := ⟨RX6, "askComes", "(LOrderedPeers$Ask;LOrderedPeers$Peer;)V"⟩
abbrev cX6_endOrGoAlong : ByteArray := prog_1_method_35_code
def yX6_endOrGoAlong : MethodName := ⟨RX6, "endOrGoAlong", "(LOrderedPeers$Ask;LOrderedPeers$Peer;)LOrderedPeers$Peer;"⟩
abbrev cX6_fetch : ByteArray := prog_1_method_36_code
def yX6_fetch : MethodName := ⟨RX6, "fetch", "(LOrderedPeers$Ask;LOrderedPeers$Pairs;)V"⟩
abbrev cX6_goAlong : ByteArray := prog_1_method_37_code
def yX6_goAlong : MethodName := ⟨RX6, "goAlong", "(LOrderedPeers$Ask;LOrderedPeers$Peer;)LOrderedPeers$Peer;"⟩
abbrev cX6_changeComes : ByteArray := prog_1_method_38_code
def yX6_changeComes : MethodName := ⟨RX6, "changeComes", "(LOrderedPeers$Message;)V"⟩
abbrev cX6_joinComes : ByteArray := prog_1_method_39_code
def yX6_joinComes : MethodName := ⟨RX6, "joinComes", "(LOrderedPeers$Peer;LOrderedPeers$Peer;)V"⟩
abbrev cX6_sendGive : ByteArray := prog_1_method_40_code
def yX6_sendGive : MethodName := ⟨RX6, "sendGive", "(LOrderedPeers$Peer;LOrderedPeers$Peer;)V"⟩
abbrev cX6_becomeLinked : ByteArray := prog_1_method_41_code
def yX6_becomeLinked : MethodName := ⟨RX6, "becomeLinked", "(LOrderedPeers$Peer;I)V"⟩
abbrev cX6_sendFirstSeek : ByteArray := prog_1_method_42_code
def yX6_sendFirstSeek : MethodName := ⟨RX6, "sendFirstSeek", "(LOrderedPeers$Peer;I)V"⟩
abbrev cX6_seekComes : ByteArray := prog_1_method_43_code
def yX6_seekComes : MethodName := ⟨RX6, "seekComes", "(LOrderedPeers$Peer;LOrderedPeers$Peer;II)V"⟩
abbrev cX6_sendTell : ByteArray := prog_1_method_44_code
def yX6_sendTell : MethodName := ⟨RX6, "sendTell", "(LOrderedPeers$Peer;ILOrderedPeers$Peer;LOrderedPeers$Peer;)V"⟩
abbrev cX6_linkComes : ByteArray := prog_1_method_45_code
def yX6_linkComes : MethodName := ⟨RX6, "linkComes", "(LOrderedPeers$Peer;IILOrderedPeers$Peer;)V"⟩
abbrev cX6_told : ByteArray := prog_1_method_46_code
def yX6_told : MethodName := ⟨RX6, "told", "(II)I"⟩
abbrev cX6_name : ByteArray := prog_1_method_47_code
def yX6_name : MethodName := ⟨RX6, "name", "(I)I"⟩
abbrev cX6_beside : ByteArray := prog_1_method_48_code
def yX6_beside : MethodName := ⟨RX6, "beside", "(III)I"⟩
abbrev cX6_key : ByteArray := prog_1_method_49_code
def yX6_key : MethodName := ⟨RX6, "key", "(II)I"⟩
abbrev cX6_kept : ByteArray := prog_1_method_50_code
def yX6_kept : MethodName := ⟨RX6, "kept", "(II)J"⟩
abbrev cX6_keeper : ByteArray := prog_1_method_51_code
def yX6_keeper : MethodName := ⟨RX6, "keeper", "(I)I"⟩
abbrev cX6_row : ByteArray := prog_1_method_52_code
def yX6_row : MethodName := ⟨RX6, "row", "(III)I"⟩
abbrev cX6_sound : ByteArray := prog_1_method_53_code
def yX6_sound : MethodName := ⟨RX6, "sound", "()I"⟩
abbrev cX6_why : ByteArray := prog_1_method_54_code
def yX6_why : MethodName := ⟨RX6, "why", "(I)I"⟩
abbrev cX6_worst : ByteArray := prog_1_method_55_code
def yX6_worst : MethodName := ⟨RX6, "worst", "()I"⟩
abbrev cX6_count : ByteArray := prog_1_method_56_code
def yX6_count : MethodName := ⟨RX6, "count", "(I)I"⟩
abbrev cX6_howManyEnded : ByteArray := prog_1_method_57_code
def yX6_howManyEnded : MethodName := ⟨RX6, "howManyEnded", "(Z)I"⟩
abbrev cX6_numberOf : ByteArray := prog_1_method_58_code
def yX6_numberOf : MethodName := ⟨RX6, "numberOf", "(LOrderedPeers$Peer;)I"⟩
abbrev cX6_isLevel : ByteArray := prog_1_method_59_code
def yX6_isLevel : MethodName := ⟨RX6, "isLevel", "(I)Z"⟩
abbrev cX6_isInRow : ByteArray := prog_1_method_60_code
def yX6_isInRow : MethodName := ⟨RX6, "isInRow", "(LOrderedPeers$Peer;LOrderedPeers$Peer;I)Z"⟩
abbrev cX6_rankInRow : ByteArray := prog_1_method_61_code
def yX6_rankInRow : MethodName := ⟨RX6, "rankInRow", "(LOrderedPeers$Peer;LOrderedPeers$Peer;I)I"⟩
abbrev cX6_nextInRow : ByteArray := prog_1_method_62_code
def yX6_nextInRow : MethodName := ⟨RX6, "nextInRow", "(LOrderedPeers$Peer;II)LOrderedPeers$Peer;"⟩
abbrev cX6_isAlone : ByteArray := prog_1_method_63_code
def yX6_isAlone : MethodName := ⟨RX6, "isAlone", "(LOrderedPeers$Peer;I)Z"⟩
abbrev cX6_faultAt : ByteArray := prog_1_method_64_code
def yX6_faultAt : MethodName := ⟨RX6, "faultAt", "(LOrderedPeers$Peer;I)I"⟩
abbrev cX6_passesOfFind : ByteArray := prog_1_method_65_code
def yX6_passesOfFind : MethodName := ⟨RX6, "passesOfFind", "(LOrderedPeers$Peer;I)I"⟩
def RX7 : String := "OrderedPeersModel"
def TX7 : u_T := fun k => match k with
  | 0 => ("OrderedPeersModel", "peers", "I", false)
  | 1 => ("OrderedPeersModel", "draw", "I", false)
  | 2 => ("OrderedPeersModel", "names", "[I", true)
  | 3 => ("OrderedPeersModel", "bits", "[I", true)
  | 4 => ("OrderedPeersModel", "state", "[I", true)
  | 5 => ("OrderedPeersModel", "load", "[I", true)
  | 6 => ("OrderedPeersModel", "has", "[Z", true)
  | 7 => ("OrderedPeersModel", "left", "[I", true)
  | 8 => ("OrderedPeersModel", "right", "[I", true)
  | 9 => ("OrderedPeersModel", "oldLeft", "[I", true)
  | 10 => ("OrderedPeersModel", "oldRight", "[I", true)
  | 11 => ("OrderedPeersModel", "pairMany", "[I", true)
  | 12 => ("OrderedPeersModel", "pairKey", "[I", true)
  | 13 => ("OrderedPeersModel", "pairValue", "[J", true)
  | 14 => ("OrderedPeersModel", "everMany", "I", false)
  | 15 => ("OrderedPeersModel", "ever", "[I", true)
  | 16 => ("OrderedPeersModel", "asks", "I", false)
  | 17 => ("OrderedPeersModel", "done", "I", false)
  | 18 => ("OrderedPeersModel", "lost", "I", false)
  | 19 => ("OrderedPeersModel", "aSort", "[I", true)
  | 20 => ("OrderedPeersModel", "aDone", "[Z", true)
  | 21 => ("OrderedPeersModel", "aAnswer", "[I", true)
  | 22 => ("OrderedPeersModel", "aPasses", "[I", true)
  | 23 => ("OrderedPeersModel", "aWay", "[I", true)
  | 24 => ("OrderedPeersModel", "aNoted", "[I", true)
  | 25 => ("OrderedPeersModel", "aNotedMany", "[I", true)
  | 26 => ("OrderedPeersModel", "aAlong", "[Z", true)
  | 27 => ("OrderedPeersModel", "aFrom", "[I", true)
  | 28 => ("OrderedPeersModel", "aTo", "[I", true)
  | 29 => ("OrderedPeersModel", "aValue", "[J", true)
  | 30 => ("OrderedPeersModel", "messages", "I", false)
  | 31 => ("OrderedPeersModel", "mSort", "[I", true)
  | 32 => ("OrderedPeersModel", "mTo", "[I", true)
  | 33 => ("OrderedPeersModel", "mAsk", "[I", true)
  | 34 => ("OrderedPeersModel", "mLevel", "[I", true)
  | 35 => ("OrderedPeersModel", "mSide", "[I", true)
  | 36 => ("OrderedPeersModel", "mWho", "[I", true)
  | 37 => ("OrderedPeersModel", "mOther", "[I", true)
  | 38 => ("OrderedPeersModel", "bagMany", "I", false)
  | 39 => ("OrderedPeersModel", "bagKey", "[I", true)
  | 40 => ("OrderedPeersModel", "bagValue", "[J", true)
  | 41 => ("OrderedPeersModel", "change", "I", false)
  | 42 => ("OrderedPeersModel", "changes", "I", false)
  | 43 => ("OrderedPeersModel", "isDrawn", "Z", false)
  | 44 => ("OrderedPeersModel", "newBits", "I", false)
  | 45 => ("OrderedPeersModel", "whyPeer", "I", false)
  | 46 => ("OrderedPeersModel", "whyLevel", "I", false)
  | _ => ("OrderedPeersModel", "whySide", "I", false)
def tyX7 : Nat → FieldType := fun k => match k with
  | 0 => .int
  | 1 => .int
  | 2 => .array .int
  | 3 => .array .int
  | 4 => .array .int
  | 5 => .array .int
  | 6 => .array .boolean
  | 7 => .array .int
  | 8 => .array .int
  | 9 => .array .int
  | 10 => .array .int
  | 11 => .array .int
  | 12 => .array .int
  | 13 => .array .long
  | 14 => .int
  | 15 => .array .int
  | 16 => .int
  | 17 => .int
  | 18 => .int
  | 19 => .array .int
  | 20 => .array .boolean
  | 21 => .array .int
  | 22 => .array .int
  | 23 => .array .int
  | 24 => .array .int
  | 25 => .array .int
  | 26 => .array .boolean
  | 27 => .array .int
  | 28 => .array .int
  | 29 => .array .long
  | 30 => .int
  | 31 => .array .int
  | 32 => .array .int
  | 33 => .array .int
  | 34 => .array .int
  | 35 => .array .int
  | 36 => .array .int
  | 37 => .array .int
  | 38 => .int
  | 39 => .array .int
  | 40 => .array .long
  | 41 => .int
  | 42 => .int
  | 43 => .boolean
  | 44 => .int
  | 45 => .int
  | 46 => .int
  | _ => .int
abbrev wsX70 : List Cond := u_ws RX7 TX7 48
theorem nmX7 : ∀ a, a < 48 → ∀ b, b < 48 → a ≠ b → (TX7 a).2.1 ≠ (TX7 b).2.1 := by decide +kernel
theorem tyX7_ok : ∀ k, k < 48 → parseFieldDescriptor (TX7 k).2.2.1 = some (tyX7 k) := by decide +kernel
abbrev cX7_init : ByteArray := prog_9_method_1_code
def yX7_init : MethodName := ⟨RX7, "<init>", "()V"⟩
abbrev cX7_in : ByteArray := prog_9_method_3_code
def yX7_in : MethodName := ⟨RX7, "in", "(JJJ)Z"⟩
abbrev cX7_isPeer : ByteArray := prog_9_method_4_code
def yX7_isPeer : MethodName := ⟨RX7, "isPeer", "(I)Z"⟩
abbrev cX7_isName : ByteArray := prog_9_method_5_code
def yX7_isName : MethodName := ⟨RX7, "isName", "(I)Z"⟩
abbrev cX7_made : ByteArray := prog_9_method_6_code
def yX7_made : MethodName := ⟨RX7, "made", "(II)I"⟩
abbrev cX7_noPlaces : ByteArray := prog_9_method_7_code
def yX7_noPlaces : MethodName := ⟨RX7, "noPlaces", "(II)V"⟩
abbrev cX7_place : ByteArray := prog_9_method_8_code
def yX7_place : MethodName := ⟨RX7, "place", "(IIII)V"⟩
abbrev cX7_peer : ByteArray := prog_9_method_9_code
def yX7_peer : MethodName := ⟨RX7, "peer", "(II)I"⟩
abbrev cX7_drawn : ByteArray := prog_9_method_10_code
def yX7_drawn : MethodName := ⟨RX7, "drawn", "(I)I"⟩
abbrev cX7_seed : ByteArray := prog_9_method_11_code
def yX7_seed : MethodName := ⟨RX7, "seed", "(I)I"⟩
abbrev cX7_leftOf : ByteArray := prog_9_method_12_code
def yX7_leftOf : MethodName := ⟨RX7, "leftOf", "(II)I"⟩
abbrev cX7_rightOf : ByteArray := prog_9_method_13_code
def yX7_rightOf : MethodName := ⟨RX7, "rightOf", "(II)I"⟩
abbrev cX7_areLike : ByteArray := prog_9_method_14_code
def yX7_areLike : MethodName := ⟨RX7, "areLike", "(III)Z"⟩
abbrev cX7_store : ByteArray := prog_9_method_15_code
def yX7_store : MethodName := ⟨RX7, "store", "(IIJ)V"⟩
abbrev cX7_placeOf : ByteArray := prog_9_method_16_code
def yX7_placeOf : MethodName := ⟨RX7, "placeOf", "(II)I"⟩
abbrev cX7_remove : ByteArray := prog_9_method_17_code
def yX7_remove : MethodName := ⟨RX7, "remove", "(II)V"⟩
abbrev cX7_ends : ByteArray := prog_9_method_18_code
def yX7_ends : MethodName := ⟨RX7, "ends", "(II)V"⟩
abbrev cX7_send : ByteArray := prog_9_method_19_code
def yX7_send : MethodName := ⟨RX7, "send", "(IIIIIII)V"⟩
abbrev cX7_gone : ByteArray := prog_9_method_20_code
def yX7_gone : MethodName := ⟨RX7, "gone", "(I)V"⟩
abbrev cX7_aims : ByteArray := prog_9_method_21_code
def yX7_aims : MethodName := ⟨RX7, "aims", "(IJ)I"⟩
abbrev cX7_comesAsk : ByteArray := prog_9_method_22_code
def yX7_comesAsk : MethodName := ⟨RX7, "comesAsk", "(II)V"⟩
abbrev cX7_isThere : ByteArray := prog_9_method_23_code
def yX7_isThere : MethodName := ⟨RX7, "isThere", "(II)V"⟩
abbrev cX7_changeMessages : ByteArray := prog_9_method_24_code
def yX7_changeMessages : MethodName := ⟨RX7, "changeMessages", "()I"⟩
abbrev cX7_seeks : ByteArray := prog_9_method_25_code
def yX7_seeks : MethodName := ⟨RX7, "seeks", "(II)V"⟩
abbrev cX7_linked : ByteArray := prog_9_method_26_code
def yX7_linked : MethodName := ⟨RX7, "linked", "(II)V"⟩
abbrev cX7_unlinks : ByteArray := prog_9_method_27_code
def yX7_unlinks : MethodName := ⟨RX7, "unlinks", "(II)V"⟩
abbrev cX7_comesJoin : ByteArray := prog_9_method_28_code
def yX7_comesJoin : MethodName := ⟨RX7, "comesJoin", "(II)V"⟩
abbrev cX7_unpack : ByteArray := prog_9_method_29_code
def yX7_unpack : MethodName := ⟨RX7, "unpack", "(I)V"⟩
abbrev cX7_comesLink : ByteArray := prog_9_method_30_code
def yX7_comesLink : MethodName := ⟨RX7, "comesLink", "(IIII)V"⟩
abbrev cX7_comesSeek : ByteArray := prog_9_method_31_code
def yX7_comesSeek : MethodName := ⟨RX7, "comesSeek", "(IIII)V"⟩
abbrev cX7_looksOver : ByteArray := prog_9_method_32_code
def yX7_looksOver : MethodName := ⟨RX7, "looksOver", "()V"⟩
abbrev cX7_inMany : ByteArray := prog_9_method_33_code
def yX7_inMany : MethodName := ⟨RX7, "inMany", "()I"⟩
abbrev cX7_join : ByteArray := prog_9_method_34_code
def yX7_join : MethodName := ⟨RX7, "join", "(II)I"⟩
abbrev cX7_leave : ByteArray := prog_9_method_35_code
def yX7_leave : MethodName := ⟨RX7, "leave", "(I)I"⟩
abbrev cX7_again : ByteArray := prog_9_method_36_code
def yX7_again : MethodName := ⟨RX7, "again", "(II)I"⟩
abbrev cX7_askOf : ByteArray := prog_9_method_37_code
def yX7_askOf : MethodName := ⟨RX7, "askOf", "(IIIIJ)I"⟩
abbrev cX7_find : ByteArray := prog_9_method_38_code
def yX7_find : MethodName := ⟨RX7, "find", "(II)I"⟩
abbrev cX7_span : ByteArray := prog_9_method_39_code
def yX7_span : MethodName := ⟨RX7, "span", "(III)I"⟩
abbrev cX7_tally : ByteArray := prog_9_method_40_code
def yX7_tally : MethodName := ⟨RX7, "tally", "(III)I"⟩
abbrev cX7_put : ByteArray := prog_9_method_41_code
def yX7_put : MethodName := ⟨RX7, "put", "(IIJ)I"⟩
abbrev cX7_get : ByteArray := prog_9_method_42_code
def yX7_get : MethodName := ⟨RX7, "get", "(II)I"⟩
abbrev cX7_isAsk : ByteArray := prog_9_method_43_code
def yX7_isAsk : MethodName := ⟨RX7, "isAsk", "(I)Z"⟩
abbrev cX7_ask : ByteArray := prog_9_method_44_code
def yX7_ask : MethodName := ⟨RX7, "ask", "(II)I"⟩
abbrev cX7_passed : ByteArray := prog_9_method_45_code
def yX7_passed : MethodName := ⟨RX7, "passed", "(II)I"⟩
abbrev cX7_noted : ByteArray := prog_9_method_46_code
def yX7_noted : MethodName := ⟨RX7, "noted", "(II)I"⟩
abbrev cX7_value : ByteArray := prog_9_method_47_code
def yX7_value : MethodName := ⟨RX7, "value", "(I)J"⟩
abbrev cX7_mayCome : ByteArray := prog_9_method_48_code
def yX7_mayCome : MethodName := ⟨RX7, "mayCome", "(I)Z"⟩
abbrev cX7_come : ByteArray := prog_9_method_49_code
def yX7_come : MethodName := ⟨RX7, "come", "(I)V"⟩
abbrev cX7_deliver : ByteArray := prog_9_method_50_code
def yX7_deliver : MethodName := ⟨RX7, "deliver", "(I)I"⟩
abbrev cX7_firstThatMay : ByteArray := prog_9_method_51_code
def yX7_firstThatMay : MethodName := ⟨RX7, "firstThatMay", "()I"⟩
abbrev cX7_all : ByteArray := prog_9_method_52_code
def yX7_all : MethodName := ⟨RX7, "all", "(I)I"⟩
abbrev cX7_message : ByteArray := prog_9_method_53_code
def yX7_message : MethodName := ⟨RX7, "message", "(II)I"⟩
abbrev cX7_told : ByteArray := prog_9_method_54_code
def yX7_told : MethodName := ⟨RX7, "told", "(II)I"⟩
abbrev cX7_name : ByteArray := prog_9_method_55_code
def yX7_name : MethodName := ⟨RX7, "name", "(I)I"⟩
abbrev cX7_beside : ByteArray := prog_9_method_56_code
def yX7_beside : MethodName := ⟨RX7, "beside", "(III)I"⟩
abbrev cX7_key : ByteArray := prog_9_method_57_code
def yX7_key : MethodName := ⟨RX7, "key", "(II)I"⟩
abbrev cX7_kept : ByteArray := prog_9_method_58_code
def yX7_kept : MethodName := ⟨RX7, "kept", "(II)J"⟩
abbrev cX7_keeper : ByteArray := prog_9_method_59_code
def yX7_keeper : MethodName := ⟨RX7, "keeper", "(I)I"⟩
abbrev cX7_next : ByteArray := prog_9_method_60_code
def yX7_next : MethodName := ⟨RX7, "next", "(III)I"⟩
abbrev cX7_row : ByteArray := prog_9_method_61_code
def yX7_row : MethodName := ⟨RX7, "row", "(III)I"⟩
abbrev cX7_judge : ByteArray := prog_9_method_62_code
def yX7_judge : MethodName := ⟨RX7, "judge", "()V"⟩
abbrev cX7_sound : ByteArray := prog_9_method_63_code
def yX7_sound : MethodName := ⟨RX7, "sound", "()I"⟩
abbrev cX7_why : ByteArray := prog_9_method_64_code
def yX7_why : MethodName := ⟨RX7, "why", "(I)I"⟩
abbrev cX7_worst : ByteArray := prog_9_method_65_code
def yX7_worst : MethodName := ⟨RX7, "worst", "()I"⟩
abbrev cX7_count : ByteArray := prog_9_method_66_code
def yX7_count : MethodName := ⟨RX7, "count", "(I)I"⟩
def RJ9 : String := "java/lang/Math"
abbrev cJ9_max_7cf53 : ByteArray := prog_10_method_65_code
def yJ9_max_7cf53 : MethodName := ⟨RJ9, "max", "(II)I"⟩
abbrev cJ9_min_7cf53 : ByteArray := prog_10_method_69_code
def yJ9_min_7cf53 : MethodName := ⟨RJ9, "min", "(II)I"⟩
def RL : String := "OrderedPeersLaw"
abbrev cL_law : ByteArray := code
def yL_law : MethodName := ⟨RL, "law", "([I)Z"⟩
