section
-- ===== PART A: goes FIRST, ahead of the names: the tables' words, and 'selects' of the private methods out of them =====
/-- a private method of a class that the tables say can be made, by its rows of tables_1 -/
def lw_okq (q : MethodName × Nat) : Prop := (q.1.cls ≠ "java/lang/invoke/MethodHandle" ∧ q.1.cls ≠ "java/lang/invoke/VarHandle") ∧ Cond.instantiable q.1.cls q.2 ∈ tables_1 ∧ Cond.privateMethod q.1 ∈ tables_1 ∧ Cond.instanceMethod q.1 ∈ tables_1
theorem lw_p0 : lw_okq (⟨"QuantileDigests$History", "dropOldest", "()V"⟩, 2) := ⟨⟨by decide +kernel, by decide +kernel⟩, List.mem_of_getElem? (i := 117) (by decide +kernel), List.mem_of_getElem? (i := 237) (by decide +kernel), List.mem_of_getElem? (i := 238) (by decide +kernel)⟩
theorem lw_p1 : lw_okq (⟨"QuantileDigests$History", "stateAt", "(I)LQuantileDigests$State;"⟩, 2) := ⟨⟨by decide +kernel, by decide +kernel⟩, List.mem_of_getElem? (i := 117) (by decide +kernel), List.mem_of_getElem? (i := 241) (by decide +kernel), List.mem_of_getElem? (i := 242) (by decide +kernel)⟩
theorem lw_p2 : lw_okq (⟨"QuantileDigests$Heaps", "order", "()V"⟩, 4) := ⟨⟨by decide +kernel, by decide +kernel⟩, List.mem_of_getElem? (i := 50) (by decide +kernel), List.mem_of_getElem? (i := 293) (by decide +kernel), List.mem_of_getElem? (i := 294) (by decide +kernel)⟩
theorem lw_p3 : lw_okq (⟨"QuantileDigests$Heaps", "isMiddleAbove", "(II)Z"⟩, 4) := ⟨⟨by decide +kernel, by decide +kernel⟩, List.mem_of_getElem? (i := 50) (by decide +kernel), List.mem_of_getElem? (i := 301) (by decide +kernel), List.mem_of_getElem? (i := 302) (by decide +kernel)⟩
theorem lw_p4 : lw_okq (⟨"QuantileDigests$Heaps", "exchange", "(II)V"⟩, 4) := ⟨⟨by decide +kernel, by decide +kernel⟩, List.mem_of_getElem? (i := 50) (by decide +kernel), List.mem_of_getElem? (i := 305) (by decide +kernel), List.mem_of_getElem? (i := 306) (by decide +kernel)⟩
theorem lw_p5 : lw_okq (⟨"QuantileDigests$Heaps", "putTogether", "(I)V"⟩, 4) := ⟨⟨by decide +kernel, by decide +kernel⟩, List.mem_of_getElem? (i := 50) (by decide +kernel), List.mem_of_getElem? (i := 313) (by decide +kernel), List.mem_of_getElem? (i := 314) (by decide +kernel)⟩
theorem lw_p6 : lw_okq (⟨"QuantileDigests$Heaps", "unite", "(II)V"⟩, 4) := ⟨⟨by decide +kernel, by decide +kernel⟩, List.mem_of_getElem? (i := 50) (by decide +kernel), List.mem_of_getElem? (i := 321) (by decide +kernel), List.mem_of_getElem? (i := 322) (by decide +kernel)⟩
theorem lw_p7 : lw_okq (⟨"QuantileDigests$Heaps", "shortenTo", "(I)V"⟩, 4) := ⟨⟨by decide +kernel, by decide +kernel⟩, List.mem_of_getElem? (i := 50) (by decide +kernel), List.mem_of_getElem? (i := 331) (by decide +kernel), List.mem_of_getElem? (i := 332) (by decide +kernel)⟩
theorem lw_p8 : lw_okq (⟨"QuantileDigests", "packOnTrial", "(LQuantileDigests$Digest;)V"⟩, 6) := ⟨⟨by decide +kernel, by decide +kernel⟩, List.mem_of_getElem? (i := 13) (by decide +kernel), List.mem_of_getElem? (i := 446) (by decide +kernel), List.mem_of_getElem? (i := 447) (by decide +kernel)⟩
theorem lw_p9 : lw_okq (⟨"QuantileDigests$TextFault", "startWeights", "(LQuantileDigests$State;)V"⟩, 4) := ⟨⟨by decide +kernel, by decide +kernel⟩, List.mem_of_getElem? (i := 159) (by decide +kernel), List.mem_of_getElem? (i := 556) (by decide +kernel), List.mem_of_getElem? (i := 557) (by decide +kernel)⟩
theorem lw_p10 : lw_okq (⟨"QuantileDigests$TextFault", "reasonOf", "(LQuantileDigests$Row;ILQuantileDigests$Part;)I"⟩, 4) := ⟨⟨by decide +kernel, by decide +kernel⟩, List.mem_of_getElem? (i := 159) (by decide +kernel), List.mem_of_getElem? (i := 565) (by decide +kernel), List.mem_of_getElem? (i := 566) (by decide +kernel)⟩
theorem lw_p11 : lw_okq (⟨"QuantileDigests$Part", "readValue", "(LQuantileDigests$Row;)Z"⟩, 3) := ⟨⟨by decide +kernel, by decide +kernel⟩, List.mem_of_getElem? (i := 135) (by decide +kernel), List.mem_of_getElem? (i := 578) (by decide +kernel), List.mem_of_getElem? (i := 579) (by decide +kernel)⟩
theorem lw_p12 : lw_okq (⟨"QuantileDigestsModel", "weightOf", "(I)I"⟩, 15) := ⟨⟨by decide +kernel, by decide +kernel⟩, List.mem_of_getElem? (i := 591) (by decide +kernel), List.mem_of_getElem? (i := 654) (by decide +kernel), List.mem_of_getElem? (i := 655) (by decide +kernel)⟩
theorem lw_p13 : lw_okq (⟨"QuantileDigestsModel", "part", "(II)I"⟩, 15) := ⟨⟨by decide +kernel, by decide +kernel⟩, List.mem_of_getElem? (i := 591) (by decide +kernel), List.mem_of_getElem? (i := 658) (by decide +kernel), List.mem_of_getElem? (i := 659) (by decide +kernel)⟩
theorem lw_p14 : lw_okq (⟨"QuantileDigestsModel", "record", "()V"⟩, 15) := ⟨⟨by decide +kernel, by decide +kernel⟩, List.mem_of_getElem? (i := 591) (by decide +kernel), List.mem_of_getElem? (i := 663) (by decide +kernel), List.mem_of_getElem? (i := 664) (by decide +kernel)⟩
theorem lw_p15 : lw_okq (⟨"QuantileDigestsModel", "comes", "(II)V"⟩, 15) := ⟨⟨by decide +kernel, by decide +kernel⟩, List.mem_of_getElem? (i := 591) (by decide +kernel), List.mem_of_getElem? (i := 670) (by decide +kernel), List.mem_of_getElem? (i := 671) (by decide +kernel)⟩
def lw_privs_1 : List (MethodName × Nat) := [(⟨"QuantileDigests$History", "dropOldest", "()V"⟩, 2), (⟨"QuantileDigests$History", "stateAt", "(I)LQuantileDigests$State;"⟩, 2), (⟨"QuantileDigests$Heaps", "order", "()V"⟩, 4), (⟨"QuantileDigests$Heaps", "isMiddleAbove", "(II)Z"⟩, 4), (⟨"QuantileDigests$Heaps", "exchange", "(II)V"⟩, 4), (⟨"QuantileDigests$Heaps", "putTogether", "(I)V"⟩, 4), (⟨"QuantileDigests$Heaps", "unite", "(II)V"⟩, 4), (⟨"QuantileDigests$Heaps", "shortenTo", "(I)V"⟩, 4), (⟨"QuantileDigests", "packOnTrial", "(LQuantileDigests$Digest;)V"⟩, 6), (⟨"QuantileDigests$TextFault", "startWeights", "(LQuantileDigests$State;)V"⟩, 4), (⟨"QuantileDigests$TextFault", "reasonOf", "(LQuantileDigests$Row;ILQuantileDigests$Part;)I"⟩, 4), (⟨"QuantileDigests$Part", "readValue", "(LQuantileDigests$Row;)Z"⟩, 3), (⟨"QuantileDigestsModel", "weightOf", "(I)I"⟩, 15), (⟨"QuantileDigestsModel", "part", "(II)I"⟩, 15), (⟨"QuantileDigestsModel", "record", "()V"⟩, 15), (⟨"QuantileDigestsModel", "comes", "(II)V"⟩, 15)]
theorem lw_r1 : ∀ q ∈ lw_privs_1, lw_okq q := List.forall_mem_cons.mpr ⟨lw_p0, List.forall_mem_cons.mpr ⟨lw_p1, List.forall_mem_cons.mpr ⟨lw_p2, List.forall_mem_cons.mpr ⟨lw_p3, List.forall_mem_cons.mpr ⟨lw_p4, List.forall_mem_cons.mpr ⟨lw_p5, List.forall_mem_cons.mpr ⟨lw_p6, List.forall_mem_cons.mpr ⟨lw_p7, List.forall_mem_cons.mpr ⟨lw_p8, List.forall_mem_cons.mpr ⟨lw_p9, List.forall_mem_cons.mpr ⟨lw_p10, List.forall_mem_cons.mpr ⟨lw_p11, List.forall_mem_cons.mpr ⟨lw_p12, List.forall_mem_cons.mpr ⟨lw_p13, List.forall_mem_cons.mpr ⟨lw_p14, List.forall_mem_cons.mpr ⟨lw_p15, fun _ h => absurd h List.not_mem_nil⟩⟩⟩⟩⟩⟩⟩⟩⟩⟩⟩⟩⟩⟩⟩⟩
theorem lw_p16 : lw_okq (⟨"QuantileDigestsModel", "packs", "(I)V"⟩, 15) := ⟨⟨by decide +kernel, by decide +kernel⟩, List.mem_of_getElem? (i := 591) (by decide +kernel), List.mem_of_getElem? (i := 674) (by decide +kernel), List.mem_of_getElem? (i := 675) (by decide +kernel)⟩
theorem lw_p17 : lw_okq (⟨"QuantileDigestsModel", "findPacked", "(I)V"⟩, 15) := ⟨⟨by decide +kernel, by decide +kernel⟩, List.mem_of_getElem? (i := 591) (by decide +kernel), List.mem_of_getElem? (i := 678) (by decide +kernel), List.mem_of_getElem? (i := 679) (by decide +kernel)⟩
theorem lw_p18 : lw_okq (⟨"QuantileDigestsModel", "takeHeaps", "(I)V"⟩, 15) := ⟨⟨by decide +kernel, by decide +kernel⟩, List.mem_of_getElem? (i := 591) (by decide +kernel), List.mem_of_getElem? (i := 682) (by decide +kernel), List.mem_of_getElem? (i := 683) (by decide +kernel)⟩
theorem lw_p19 : lw_okq (⟨"QuantileDigestsModel", "heapPart", "(III)I"⟩, 15) := ⟨⟨by decide +kernel, by decide +kernel⟩, List.mem_of_getElem? (i := 591) (by decide +kernel), List.mem_of_getElem? (i := 686) (by decide +kernel), List.mem_of_getElem? (i := 687) (by decide +kernel)⟩
theorem lw_p20 : lw_okq (⟨"QuantileDigestsModel", "takeHeap", "(IIII)V"⟩, 15) := ⟨⟨by decide +kernel, by decide +kernel⟩, List.mem_of_getElem? (i := 591) (by decide +kernel), List.mem_of_getElem? (i := 690) (by decide +kernel), List.mem_of_getElem? (i := 691) (by decide +kernel)⟩
theorem lw_p21 : lw_okq (⟨"QuantileDigestsModel", "takeBuffer", "(I)V"⟩, 15) := ⟨⟨by decide +kernel, by decide +kernel⟩, List.mem_of_getElem? (i := 591) (by decide +kernel), List.mem_of_getElem? (i := 694) (by decide +kernel), List.mem_of_getElem? (i := 695) (by decide +kernel)⟩
theorem lw_p22 : lw_okq (⟨"QuantileDigestsModel", "putInOrder", "()V"⟩, 15) := ⟨⟨by decide +kernel, by decide +kernel⟩, List.mem_of_getElem? (i := 591) (by decide +kernel), List.mem_of_getElem? (i := 698) (by decide +kernel), List.mem_of_getElem? (i := 699) (by decide +kernel)⟩
theorem lw_p23 : lw_okq (⟨"QuantileDigestsModel", "copyHeap", "(II)V"⟩, 15) := ⟨⟨by decide +kernel, by decide +kernel⟩, List.mem_of_getElem? (i := 591) (by decide +kernel), List.mem_of_getElem? (i := 702) (by decide +kernel), List.mem_of_getElem? (i := 703) (by decide +kernel)⟩
theorem lw_p24 : lw_okq (⟨"QuantileDigestsModel", "putTogether", "(I)V"⟩, 15) := ⟨⟨by decide +kernel, by decide +kernel⟩, List.mem_of_getElem? (i := 591) (by decide +kernel), List.mem_of_getElem? (i := 706) (by decide +kernel), List.mem_of_getElem? (i := 707) (by decide +kernel)⟩
theorem lw_p25 : lw_okq (⟨"QuantileDigestsModel", "giveHeaps", "(I)V"⟩, 15) := ⟨⟨by decide +kernel, by decide +kernel⟩, List.mem_of_getElem? (i := 591) (by decide +kernel), List.mem_of_getElem? (i := 710) (by decide +kernel), List.mem_of_getElem? (i := 711) (by decide +kernel)⟩
theorem lw_p26 : lw_okq (⟨"QuantileDigestsModel", "setPart", "(III)V"⟩, 15) := ⟨⟨by decide +kernel, by decide +kernel⟩, List.mem_of_getElem? (i := 591) (by decide +kernel), List.mem_of_getElem? (i := 714) (by decide +kernel), List.mem_of_getElem? (i := 715) (by decide +kernel)⟩
theorem lw_p27 : lw_okq (⟨"QuantileDigestsModel", "knows", "(II)V"⟩, 15) := ⟨⟨by decide +kernel, by decide +kernel⟩, List.mem_of_getElem? (i := 591) (by decide +kernel), List.mem_of_getElem? (i := 718) (by decide +kernel), List.mem_of_getElem? (i := 719) (by decide +kernel)⟩
theorem lw_p28 : lw_okq (⟨"QuantileDigestsModel", "aheadOf", "(II)I"⟩, 15) := ⟨⟨by decide +kernel, by decide +kernel⟩, List.mem_of_getElem? (i := 591) (by decide +kernel), List.mem_of_getElem? (i := 743) (by decide +kernel), List.mem_of_getElem? (i := 744) (by decide +kernel)⟩
theorem lw_p29 : lw_okq (⟨"QuantileDigestsModel", "putValuesInOrder", "(I)V"⟩, 15) := ⟨⟨by decide +kernel, by decide +kernel⟩, List.mem_of_getElem? (i := 591) (by decide +kernel), List.mem_of_getElem? (i := 760) (by decide +kernel), List.mem_of_getElem? (i := 761) (by decide +kernel)⟩
theorem lw_p30 : lw_okq (⟨"QuantileDigestsModel", "sumOf", "(I)I"⟩, 15) := ⟨⟨by decide +kernel, by decide +kernel⟩, List.mem_of_getElem? (i := 591) (by decide +kernel), List.mem_of_getElem? (i := 764) (by decide +kernel), List.mem_of_getElem? (i := 765) (by decide +kernel)⟩
theorem lw_p31 : lw_okq (⟨"QuantileDigestsModel", "greatestWeight", "(I)I"⟩, 15) := ⟨⟨by decide +kernel, by decide +kernel⟩, List.mem_of_getElem? (i := 591) (by decide +kernel), List.mem_of_getElem? (i := 768) (by decide +kernel), List.mem_of_getElem? (i := 769) (by decide +kernel)⟩
def lw_privs_2 : List (MethodName × Nat) := [(⟨"QuantileDigestsModel", "packs", "(I)V"⟩, 15), (⟨"QuantileDigestsModel", "findPacked", "(I)V"⟩, 15), (⟨"QuantileDigestsModel", "takeHeaps", "(I)V"⟩, 15), (⟨"QuantileDigestsModel", "heapPart", "(III)I"⟩, 15), (⟨"QuantileDigestsModel", "takeHeap", "(IIII)V"⟩, 15), (⟨"QuantileDigestsModel", "takeBuffer", "(I)V"⟩, 15), (⟨"QuantileDigestsModel", "putInOrder", "()V"⟩, 15), (⟨"QuantileDigestsModel", "copyHeap", "(II)V"⟩, 15), (⟨"QuantileDigestsModel", "putTogether", "(I)V"⟩, 15), (⟨"QuantileDigestsModel", "giveHeaps", "(I)V"⟩, 15), (⟨"QuantileDigestsModel", "setPart", "(III)V"⟩, 15), (⟨"QuantileDigestsModel", "knows", "(II)V"⟩, 15), (⟨"QuantileDigestsModel", "aheadOf", "(II)I"⟩, 15), (⟨"QuantileDigestsModel", "putValuesInOrder", "(I)V"⟩, 15), (⟨"QuantileDigestsModel", "sumOf", "(I)I"⟩, 15), (⟨"QuantileDigestsModel", "greatestWeight", "(I)I"⟩, 15)]
theorem lw_r2 : ∀ q ∈ lw_privs_2, lw_okq q := List.forall_mem_cons.mpr ⟨lw_p16, List.forall_mem_cons.mpr ⟨lw_p17, List.forall_mem_cons.mpr ⟨lw_p18, List.forall_mem_cons.mpr ⟨lw_p19, List.forall_mem_cons.mpr ⟨lw_p20, List.forall_mem_cons.mpr ⟨lw_p21, List.forall_mem_cons.mpr ⟨lw_p22, List.forall_mem_cons.mpr ⟨lw_p23, List.forall_mem_cons.mpr ⟨lw_p24, List.forall_mem_cons.mpr ⟨lw_p25, List.forall_mem_cons.mpr ⟨lw_p26, List.forall_mem_cons.mpr ⟨lw_p27, List.forall_mem_cons.mpr ⟨lw_p28, List.forall_mem_cons.mpr ⟨lw_p29, List.forall_mem_cons.mpr ⟨lw_p30, List.forall_mem_cons.mpr ⟨lw_p31, fun _ h => absurd h List.not_mem_nil⟩⟩⟩⟩⟩⟩⟩⟩⟩⟩⟩⟩⟩⟩⟩⟩
theorem lw_p32 : lw_okq (⟨"QuantileDigestsModel", "whyNoQuantile", "(III)I"⟩, 15) := ⟨⟨by decide +kernel, by decide +kernel⟩, List.mem_of_getElem? (i := 591) (by decide +kernel), List.mem_of_getElem? (i := 776) (by decide +kernel), List.mem_of_getElem? (i := 777) (by decide +kernel)⟩
theorem lw_p33 : lw_okq (⟨"QuantileDigestsModel", "findAll", "(I)V"⟩, 15) := ⟨⟨by decide +kernel, by decide +kernel⟩, List.mem_of_getElem? (i := 591) (by decide +kernel), List.mem_of_getElem? (i := 781) (by decide +kernel), List.mem_of_getElem? (i := 782) (by decide +kernel)⟩
theorem lw_p34 : lw_okq (⟨"QuantileDigestsModel", "quantileBy", "(II)I"⟩, 15) := ⟨⟨by decide +kernel, by decide +kernel⟩, List.mem_of_getElem? (i := 591) (by decide +kernel), List.mem_of_getElem? (i := 785) (by decide +kernel), List.mem_of_getElem? (i := 786) (by decide +kernel)⟩
theorem lw_p35 : lw_okq (⟨"QuantileDigestsModel", "truthBy", "(II)I"⟩, 15) := ⟨⟨by decide +kernel, by decide +kernel⟩, List.mem_of_getElem? (i := 591) (by decide +kernel), List.mem_of_getElem? (i := 795) (by decide +kernel), List.mem_of_getElem? (i := 796) (by decide +kernel)⟩
theorem lw_p36 : lw_okq (⟨"QuantileDigestsModel", "heapsBy", "(II)I"⟩, 15) := ⟨⟨by decide +kernel, by decide +kernel⟩, List.mem_of_getElem? (i := 591) (by decide +kernel), List.mem_of_getElem? (i := 815) (by decide +kernel), List.mem_of_getElem? (i := 816) (by decide +kernel)⟩
theorem lw_p37 : lw_okq (⟨"QuantileDigestsModel", "allWeight", "()I"⟩, 15) := ⟨⟨by decide +kernel, by decide +kernel⟩, List.mem_of_getElem? (i := 591) (by decide +kernel), List.mem_of_getElem? (i := 823) (by decide +kernel), List.mem_of_getElem? (i := 824) (by decide +kernel)⟩
theorem lw_p38 : lw_okq (⟨"QuantileDigestsModel", "findFault", "()I"⟩, 15) := ⟨⟨by decide +kernel, by decide +kernel⟩, List.mem_of_getElem? (i := 591) (by decide +kernel), List.mem_of_getElem? (i := 843) (by decide +kernel), List.mem_of_getElem? (i := 844) (by decide +kernel)⟩
theorem lw_p39 : lw_okq (⟨"QuantileDigestsModel", "readsPart", "(Z)I"⟩, 15) := ⟨⟨by decide +kernel, by decide +kernel⟩, List.mem_of_getElem? (i := 591) (by decide +kernel), List.mem_of_getElem? (i := 847) (by decide +kernel), List.mem_of_getElem? (i := 848) (by decide +kernel)⟩
theorem lw_p40 : lw_okq (⟨"QuantileDigestsModel", "takeNumber", "(I)I"⟩, 15) := ⟨⟨by decide +kernel, by decide +kernel⟩, List.mem_of_getElem? (i := 591) (by decide +kernel), List.mem_of_getElem? (i := 851) (by decide +kernel), List.mem_of_getElem? (i := 852) (by decide +kernel)⟩
theorem lw_p41 : lw_okq (⟨"QuantileDigestsModel", "character", "(I)I"⟩, 15) := ⟨⟨by decide +kernel, by decide +kernel⟩, List.mem_of_getElem? (i := 591) (by decide +kernel), List.mem_of_getElem? (i := 855) (by decide +kernel), List.mem_of_getElem? (i := 856) (by decide +kernel)⟩
theorem lw_p42 : lw_okq (⟨"QuantileDigestsModel", "takes", "(I)Z"⟩, 15) := ⟨⟨by decide +kernel, by decide +kernel⟩, List.mem_of_getElem? (i := 591) (by decide +kernel), List.mem_of_getElem? (i := 859) (by decide +kernel), List.mem_of_getElem? (i := 860) (by decide +kernel)⟩
def lw_privs_3 : List (MethodName × Nat) := [(⟨"QuantileDigestsModel", "whyNoQuantile", "(III)I"⟩, 15), (⟨"QuantileDigestsModel", "findAll", "(I)V"⟩, 15), (⟨"QuantileDigestsModel", "quantileBy", "(II)I"⟩, 15), (⟨"QuantileDigestsModel", "truthBy", "(II)I"⟩, 15), (⟨"QuantileDigestsModel", "heapsBy", "(II)I"⟩, 15), (⟨"QuantileDigestsModel", "allWeight", "()I"⟩, 15), (⟨"QuantileDigestsModel", "findFault", "()I"⟩, 15), (⟨"QuantileDigestsModel", "readsPart", "(Z)I"⟩, 15), (⟨"QuantileDigestsModel", "takeNumber", "(I)I"⟩, 15), (⟨"QuantileDigestsModel", "character", "(I)I"⟩, 15), (⟨"QuantileDigestsModel", "takes", "(I)Z"⟩, 15)]
theorem lw_r3 : ∀ q ∈ lw_privs_3, lw_okq q := List.forall_mem_cons.mpr ⟨lw_p32, List.forall_mem_cons.mpr ⟨lw_p33, List.forall_mem_cons.mpr ⟨lw_p34, List.forall_mem_cons.mpr ⟨lw_p35, List.forall_mem_cons.mpr ⟨lw_p36, List.forall_mem_cons.mpr ⟨lw_p37, List.forall_mem_cons.mpr ⟨lw_p38, List.forall_mem_cons.mpr ⟨lw_p39, List.forall_mem_cons.mpr ⟨lw_p40, List.forall_mem_cons.mpr ⟨lw_p41, List.forall_mem_cons.mpr ⟨lw_p42, fun _ h => absurd h List.not_mem_nil⟩⟩⟩⟩⟩⟩⟩⟩⟩⟩⟩
def lw_privs : List (MethodName × Nat) := lw_privs_1 ++ (lw_privs_2 ++ (lw_privs_3))
def lw_tbl : List Cond := k2_sels lw_privs ++ tables_1
theorem lw_privs_ok : ∀ q ∈ lw_privs, lw_okq q := by
  show ∀ q ∈ lw_privs_1 ++ (lw_privs_2 ++ (lw_privs_3)), lw_okq q
  exact List.forall_mem_append.mpr ⟨lw_r1, List.forall_mem_append.mpr ⟨lw_r2, lw_r3⟩⟩
/-- the streams that the claim lets the run draw from -/
abbrev lw_cs : List Choice := [Jvm.Choice.named "NaN.bits"]
theorem lw_bits : nanBits ∈ lw_cs := by first | decide | exact List.mem_cons_self | simp [lw_cs, nanBits]
end
section
def RX0 : String := "QuantileDigests$Digest"
def TX0 : u_T := fun k => match k with
  | 0 => ("QuantileDigests$Digest", "heaps", "LQuantileDigests$Heaps;", true)
  | 1 => ("QuantileDigests$Digest", "buffer", "LQuantileDigests$Row;", true)
  | 2 => ("QuantileDigests$Digest", "values", "LQuantileDigests$Row;", true)
  | _ => ("QuantileDigests$Digest", "packings", "I", false)
def tyX0 : Nat → FieldType := fun k => match k with
  | 0 => .object "QuantileDigests$Heaps"
  | 1 => .object "QuantileDigests$Row"
  | 2 => .object "QuantileDigests$Row"
  | _ => .int
abbrev wsX00 : List Cond := u_ws RX0 TX0 4
theorem nmX0 : ∀ a, a < 4 → ∀ b, b < 4 → a ≠ b → (TX0 a).2.1 ≠ (TX0 b).2.1 := by decide +kernel
theorem tyX0_ok : ∀ k, k < 4 → parseFieldDescriptor (TX0 k).2.2.1 = some (tyX0 k) := by decide +kernel
abbrev cX0_init : ByteArray := prog_2_method_1_code
def yX0_init : MethodName := ⟨RX0, "<init>", "()V"⟩
abbrev cX0_weight : ByteArray := prog_2_method_2_code
def yX0_weight : MethodName := ⟨RX0, "weight", "()I"⟩
abbrev cX0_sum : ByteArray := prog_2_method_3_code
def yX0_sum : MethodName := ⟨RX0, "sum", "()I"⟩
abbrev cX0_least : ByteArray := prog_2_method_4_code
def yX0_least : MethodName := ⟨RX0, "least", "()I"⟩
abbrev cX0_greatest : ByteArray := prog_2_method_5_code
def yX0_greatest : MethodName := ⟨RX0, "greatest", "()I"⟩
abbrev cX0_trueQuantileAt : ByteArray := prog_2_method_6_code
def yX0_trueQuantileAt : MethodName := ⟨RX0, "trueQuantileAt", "(I)I"⟩
abbrev cX0_receive : ByteArray := prog_2_method_7_code
def yX0_receive : MethodName := ⟨RX0, "receive", "(ILQuantileDigests$Row;)V"⟩
abbrev cX0_packBy : ByteArray := prog_2_method_8_code
def yX0_packBy : MethodName := ⟨RX0, "packBy", "(I)V"⟩
abbrev cX0_takeOver : ByteArray := prog_2_method_9_code
def yX0_takeOver : MethodName := ⟨RX0, "takeOver", "(LQuantileDigests$Digest;I)V"⟩
abbrev cX0_empty : ByteArray := prog_2_method_10_code
def yX0_empty : MethodName := ⟨RX0, "empty", "()V"⟩
abbrev cX0_copyFrom : ByteArray := prog_2_method_11_code
def yX0_copyFrom : MethodName := ⟨RX0, "copyFrom", "(LQuantileDigests$Digest;)V"⟩
def RX1 : String := "QuantileDigests$Heaps"
def TX1 : u_T := fun k => match k with
  | 0 => ("QuantileDigests$Heaps", "weights", "LQuantileDigests$Row;", true)
  | 1 => ("QuantileDigests$Heaps", "sums", "LQuantileDigests$Row;", true)
  | 2 => ("QuantileDigests$Heaps", "leasts", "LQuantileDigests$Row;", true)
  | _ => ("QuantileDigests$Heaps", "greatests", "LQuantileDigests$Row;", true)
def tyX1 : Nat → FieldType := fun k => match k with
  | 0 => .object "QuantileDigests$Row"
  | 1 => .object "QuantileDigests$Row"
  | 2 => .object "QuantileDigests$Row"
  | _ => .object "QuantileDigests$Row"
abbrev wsX10 : List Cond := u_ws RX1 TX1 4
theorem nmX1 : ∀ a, a < 4 → ∀ b, b < 4 → a ≠ b → (TX1 a).2.1 ≠ (TX1 b).2.1 := by decide +kernel
theorem tyX1_ok : ∀ k, k < 4 → parseFieldDescriptor (TX1 k).2.2.1 = some (tyX1 k) := by decide +kernel
abbrev cX1_init : ByteArray := prog_3_method_1_code
def yX1_init : MethodName := ⟨RX1, "<init>", "()V"⟩
abbrev cX1_size : ByteArray := prog_3_method_2_code
def yX1_size : MethodName := ⟨RX1, "size", "()I"⟩
abbrev cX1_empty : ByteArray := prog_3_method_3_code
def yX1_empty : MethodName := ⟨RX1, "empty", "()V"⟩
abbrev cX1_copyFrom : ByteArray := prog_3_method_4_code
def yX1_copyFrom : MethodName := ⟨RX1, "copyFrom", "(LQuantileDigests$Heaps;)V"⟩
abbrev cX1_appendEach : ByteArray := prog_3_method_5_code
def yX1_appendEach : MethodName := ⟨RX1, "appendEach", "(LQuantileDigests$Row;)V"⟩
abbrev cX1_appendAll : ByteArray := prog_3_method_6_code
def yX1_appendAll : MethodName := ⟨RX1, "appendAll", "(LQuantileDigests$Heaps;)V"⟩
abbrev cX1_wholeMiddle : ByteArray := prog_3_method_7_code
def yX1_wholeMiddle : MethodName := ⟨RX1, "wholeMiddle", "(I)I"⟩
abbrev cX1_floatMiddle : ByteArray := prog_3_method_8_code
def yX1_floatMiddle : MethodName := ⟨RX1, "floatMiddle", "(I)F"⟩
abbrev cX1_weightAheadOf : ByteArray := prog_3_method_9_code
def yX1_weightAheadOf : MethodName := ⟨RX1, "weightAheadOf", "(I)I"⟩
abbrev cX1_packBy : ByteArray := prog_3_method_10_code
def yX1_packBy : MethodName := ⟨RX1, "packBy", "(I)V"⟩
abbrev cX1_order : ByteArray := prog_3_method_11_code
def yX1_order : MethodName := ⟨RX1, "order", "()V"⟩
abbrev cX1_isMiddleAbove : ByteArray := prog_3_method_12_code
def yX1_isMiddleAbove : MethodName := ⟨RX1, "isMiddleAbove", "(II)Z"⟩
abbrev cX1_exchange : ByteArray := prog_3_method_13_code
def yX1_exchange : MethodName := ⟨RX1, "exchange", "(II)V"⟩
abbrev cX1_putTogether : ByteArray := prog_3_method_14_code
def yX1_putTogether : MethodName := ⟨RX1, "putTogether", "(I)V"⟩
abbrev cX1_isWithinPlace : ByteArray := prog_3_method_15_code
def yX1_isWithinPlace : MethodName := ⟨RX1, "isWithinPlace", "(IIII)Z"⟩
abbrev cX1_unite : ByteArray := prog_3_method_16_code
def yX1_unite : MethodName := ⟨RX1, "unite", "(II)V"⟩
abbrev cX1_shortenTo : ByteArray := prog_3_method_17_code
def yX1_shortenTo : MethodName := ⟨RX1, "shortenTo", "(I)V"⟩
abbrev cX1_quantileAt : ByteArray := prog_3_method_18_code
def yX1_quantileAt : MethodName := ⟨RX1, "quantileAt", "(I)I"⟩
abbrev cX1_between : ByteArray := prog_3_method_19_code
def yX1_between : MethodName := ⟨RX1, "between", "(JJJJJJJ)I"⟩
abbrev cX1_greatestQAtMost : ByteArray := prog_3_method_20_code
def yX1_greatestQAtMost : MethodName := ⟨RX1, "greatestQAtMost", "(I)I"⟩
abbrev cX1_widthAt : ByteArray := prog_3_method_21_code
def yX1_widthAt : MethodName := ⟨RX1, "widthAt", "(I)I"⟩
def RX2 : String := "QuantileDigests$History"
def TX2 : u_T := fun k => match k with
  | 0 => ("QuantileDigests$History", "states", "[LQuantileDigests$State;", true)
  | _ => ("QuantileDigests$History", "size", "I", false)
def tyX2 : Nat → FieldType := fun k => match k with
  | 0 => .array (.object "QuantileDigests$State")
  | _ => .int
abbrev wsX20 : List Cond := u_ws RX2 TX2 2
theorem nmX2 : ∀ a, a < 2 → ∀ b, b < 2 → a ≠ b → (TX2 a).2.1 ≠ (TX2 b).2.1 := by decide +kernel
theorem tyX2_ok : ∀ k, k < 2 → parseFieldDescriptor (TX2 k).2.2.1 = some (tyX2 k) := by decide +kernel
abbrev cX2_init : ByteArray := prog_4_method_1_code
def yX2_init : MethodName := ⟨RX2, "<init>", "()V"⟩
abbrev cX2_size : ByteArray := prog_4_method_2_code
def yX2_size : MethodName := ⟨RX2, "size", "()I"⟩
abbrev cX2_record : ByteArray := prog_4_method_3_code
def yX2_record : MethodName := ⟨RX2, "record", "(LQuantileDigests$State;)V"⟩
abbrev cX2_restoreLatest : ByteArray := prog_4_method_4_code
def yX2_restoreLatest : MethodName := ⟨RX2, "restoreLatest", "(LQuantileDigests$State;)V"⟩
abbrev cX2_dropOldest : ByteArray := prog_4_method_5_code
def yX2_dropOldest : MethodName := ⟨RX2, "dropOldest", "()V"⟩
abbrev cX2_stateAt : ByteArray := prog_4_method_6_code
def yX2_stateAt : MethodName := ⟨RX2, "stateAt", "(I)LQuantileDigests$State;"⟩
def RX3 : String := "QuantileDigests$Part"
def TX3 : u_T := fun k => match k with
  | 0 => ("QuantileDigests$Part", "values", "LQuantileDigests$Row;", true)
  | 1 => ("QuantileDigests$Part", "digest", "I", false)
  | _ => ("QuantileDigests$Part", "end", "I", false)
def tyX3 : Nat → FieldType := fun k => match k with
  | 0 => .object "QuantileDigests$Row"
  | 1 => .int
  | _ => .int
abbrev wsX30 : List Cond := u_ws RX3 TX3 3
theorem nmX3 : ∀ a, a < 3 → ∀ b, b < 3 → a ≠ b → (TX3 a).2.1 ≠ (TX3 b).2.1 := by decide +kernel
theorem tyX3_ok : ∀ k, k < 3 → parseFieldDescriptor (TX3 k).2.2.1 = some (tyX3 k) := by decide +kernel
abbrev cX3_init : ByteArray := prog_5_method_1_code
def yX3_init : MethodName := ⟨RX3, "<init>", "()V"⟩
abbrev cX3_readFrom : ByteArray := prog_5_method_2_code
def yX3_readFrom : MethodName := ⟨RX3, "readFrom", "(LQuantileDigests$Row;I)Z"⟩
abbrev cX3_readValue : ByteArray := prog_5_method_3_code
def yX3_readValue : MethodName := ⟨RX3, "readValue", "(LQuantileDigests$Row;)Z"⟩
abbrev cX3_digitAt : ByteArray := prog_5_method_4_code
def yX3_digitAt : MethodName := ⟨RX3, "digitAt", "(LQuantileDigests$Row;I)I"⟩
def RX4 : String := "QuantileDigests$Row"
def TX4 : u_T := fun k => match k with
  | 0 => ("QuantileDigests$Row", "cells", "[I", true)
  | _ => ("QuantileDigests$Row", "length", "I", false)
def tyX4 : Nat → FieldType := fun k => match k with
  | 0 => .array .int
  | _ => .int
abbrev wsX40 : List Cond := u_ws RX4 TX4 2
theorem nmX4 : ∀ a, a < 2 → ∀ b, b < 2 → a ≠ b → (TX4 a).2.1 ≠ (TX4 b).2.1 := by decide +kernel
theorem tyX4_ok : ∀ k, k < 2 → parseFieldDescriptor (TX4 k).2.2.1 = some (tyX4 k) := by decide +kernel
abbrev cX4_init : ByteArray := prog_6_method_1_code
def yX4_init : MethodName := ⟨RX4, "<init>", "(I)V"⟩
abbrev cX4_length : ByteArray := prog_6_method_2_code
def yX4_length : MethodName := ⟨RX4, "length", "()I"⟩
abbrev cX4_at : ByteArray := prog_6_method_3_code
def yX4_at : MethodName := ⟨RX4, "at", "(I)I"⟩
abbrev cX4_put : ByteArray := prog_6_method_4_code
def yX4_put : MethodName := ⟨RX4, "put", "(II)V"⟩
abbrev cX4_append : ByteArray := prog_6_method_5_code
def yX4_append : MethodName := ⟨RX4, "append", "(I)V"⟩
abbrev cX4_appendAll : ByteArray := prog_6_method_6_code
def yX4_appendAll : MethodName := ⟨RX4, "appendAll", "(LQuantileDigests$Row;)V"⟩
abbrev cX4_exchange : ByteArray := prog_6_method_7_code
def yX4_exchange : MethodName := ⟨RX4, "exchange", "(II)V"⟩
abbrev cX4_insertInOrder : ByteArray := prog_6_method_8_code
def yX4_insertInOrder : MethodName := ⟨RX4, "insertInOrder", "(I)V"⟩
abbrev cX4_shortenTo : ByteArray := prog_6_method_9_code
def yX4_shortenTo : MethodName := ⟨RX4, "shortenTo", "(I)V"⟩
abbrev cX4_empty : ByteArray := prog_6_method_10_code
def yX4_empty : MethodName := ⟨RX4, "empty", "()V"⟩
abbrev cX4_copyFrom : ByteArray := prog_6_method_11_code
def yX4_copyFrom : MethodName := ⟨RX4, "copyFrom", "(LQuantileDigests$Row;)V"⟩
abbrev cX4_total : ByteArray := prog_6_method_12_code
def yX4_total : MethodName := ⟨RX4, "total", "()I"⟩
abbrev cX4_least : ByteArray := prog_6_method_13_code
def yX4_least : MethodName := ⟨RX4, "least", "()I"⟩
abbrev cX4_greatest : ByteArray := prog_6_method_14_code
def yX4_greatest : MethodName := ⟨RX4, "greatest", "()I"⟩
def RX5 : String := "QuantileDigests$State"
def TX5 : u_T := fun k => match k with
  | 0 => ("QuantileDigests$State", "settings", "LQuantileDigests$Row;", true)
  | 1 => ("QuantileDigests$State", "first", "LQuantileDigests$Digest;", true)
  | 2 => ("QuantileDigests$State", "second", "LQuantileDigests$Digest;", true)
  | _ => ("QuantileDigests$State", "third", "LQuantileDigests$Digest;", true)
def tyX5 : Nat → FieldType := fun k => match k with
  | 0 => .object "QuantileDigests$Row"
  | 1 => .object "QuantileDigests$Digest"
  | 2 => .object "QuantileDigests$Digest"
  | _ => .object "QuantileDigests$Digest"
abbrev wsX50 : List Cond := u_ws RX5 TX5 4
theorem nmX5 : ∀ a, a < 4 → ∀ b, b < 4 → a ≠ b → (TX5 a).2.1 ≠ (TX5 b).2.1 := by decide +kernel
theorem tyX5_ok : ∀ k, k < 4 → parseFieldDescriptor (TX5 k).2.2.1 = some (tyX5 k) := by decide +kernel
abbrev cX5_init : ByteArray := prog_7_method_1_code
def yX5_init : MethodName := ⟨RX5, "<init>", "()V"⟩
abbrev cX5_digestAt : ByteArray := prog_7_method_2_code
def yX5_digestAt : MethodName := ⟨RX5, "digestAt", "(I)LQuantileDigests$Digest;"⟩
abbrev cX5_weight : ByteArray := prog_7_method_3_code
def yX5_weight : MethodName := ⟨RX5, "weight", "()I"⟩
abbrev cX5_heapCount : ByteArray := prog_7_method_4_code
def yX5_heapCount : MethodName := ⟨RX5, "heapCount", "()I"⟩
abbrev cX5_copyFrom : ByteArray := prog_7_method_5_code
def yX5_copyFrom : MethodName := ⟨RX5, "copyFrom", "(LQuantileDigests$State;)V"⟩
def RX6 : String := "QuantileDigests$TextFault"
def TX6 : u_T := fun k => match k with
  | 0 => ("QuantileDigests$TextFault", "weights", "LQuantileDigests$Row;", true)
  | 1 => ("QuantileDigests$TextFault", "position", "I", false)
  | 2 => ("QuantileDigests$TextFault", "reason", "I", false)
  | _ => ("QuantileDigests$TextFault", "cause", "I", false)
def tyX6 : Nat → FieldType := fun k => match k with
  | 0 => .object "QuantileDigests$Row"
  | 1 => .int
  | 2 => .int
  | _ => .int
abbrev wsX60 : List Cond := u_ws RX6 TX6 4
theorem nmX6 : ∀ a, a < 4 → ∀ b, b < 4 → a ≠ b → (TX6 a).2.1 ≠ (TX6 b).2.1 := by decide +kernel
theorem tyX6_ok : ∀ k, k < 4 → parseFieldDescriptor (TX6 k).2.2.1 = some (tyX6 k) := by decide +kernel
abbrev cX6_init : ByteArray := prog_8_method_1_code
def yX6_init : MethodName := ⟨RX6, "<init>", "()V"⟩
abbrev cX6_find : ByteArray := prog_8_method_2_code
def yX6_find : MethodName := ⟨RX6, "find", "(LQuantileDigests$Row;LQuantileDigests$State;LQuantileDigests$Part;)V"⟩
abbrev cX6_startWeights : ByteArray := prog_8_method_3_code
def yX6_startWeights : MethodName := ⟨RX6, "startWeights", "(LQuantileDigests$State;)V"⟩
abbrev cX6_reasonOf : ByteArray := prog_8_method_4_code
def yX6_reasonOf : MethodName := ⟨RX6, "reasonOf", "(LQuantileDigests$Row;ILQuantileDigests$Part;)I"⟩
def RX7 : String := "QuantileDigests"
def TX7 : u_T := fun k => match k with
  | 0 => ("QuantileDigests", "state", "LQuantileDigests$State;", true)
  | 1 => ("QuantileDigests", "history", "LQuantileDigests$History;", true)
  | 2 => ("QuantileDigests", "text", "LQuantileDigests$Row;", true)
  | 3 => ("QuantileDigests", "part", "LQuantileDigests$Part;", true)
  | 4 => ("QuantileDigests", "textFault", "LQuantileDigests$TextFault;", true)
  | _ => ("QuantileDigests", "trial", "LQuantileDigests$Heaps;", true)
def tyX7 : Nat → FieldType := fun k => match k with
  | 0 => .object "QuantileDigests$State"
  | 1 => .object "QuantileDigests$History"
  | 2 => .object "QuantileDigests$Row"
  | 3 => .object "QuantileDigests$Part"
  | 4 => .object "QuantileDigests$TextFault"
  | _ => .object "QuantileDigests$Heaps"
abbrev wsX70 : List Cond := u_ws RX7 TX7 6
theorem nmX7 : ∀ a, a < 6 → ∀ b, b < 6 → a ≠ b → (TX7 a).2.1 ≠ (TX7 b).2.1 := by decide +kernel
theorem tyX7_ok : ∀ k, k < 6 → parseFieldDescriptor (TX7 k).2.2.1 = some (tyX7 k) := by decide +kernel
abbrev cX7_init : ByteArray := prog_1_method_1_code
def yX7_init : MethodName := ⟨RX7, "<init>", "()V"⟩
abbrev cX7_add : ByteArray := prog_1_method_2_code
def yX7_add : MethodName := ⟨RX7, "add", "(III)I"⟩
abbrev cX7_pack : ByteArray := prog_1_method_3_code
def yX7_pack : MethodName := ⟨RX7, "pack", "(I)I"⟩
abbrev cX7_join : ByteArray := prog_1_method_4_code
def yX7_join : MethodName := ⟨RX7, "join", "(II)I"⟩
abbrev cX7_clear : ByteArray := prog_1_method_5_code
def yX7_clear : MethodName := ⟨RX7, "clear", "(I)I"⟩
abbrev cX7_set : ByteArray := prog_1_method_6_code
def yX7_set : MethodName := ⟨RX7, "set", "(II)I"⟩
abbrev cX7_heapOf : ByteArray := prog_1_method_7_code
def yX7_heapOf : MethodName := ⟨RX7, "heapOf", "(III)I"⟩
abbrev cX7_bufferOf : ByteArray := prog_1_method_8_code
def yX7_bufferOf : MethodName := ⟨RX7, "bufferOf", "(II)I"⟩
abbrev cX7_digestOf : ByteArray := prog_1_method_9_code
def yX7_digestOf : MethodName := ⟨RX7, "digestOf", "(II)I"⟩
abbrev cX7_quantile : ByteArray := prog_1_method_10_code
def yX7_quantile : MethodName := ⟨RX7, "quantile", "(II)I"⟩
abbrev cX7_truth : ByteArray := prog_1_method_11_code
def yX7_truth : MethodName := ⟨RX7, "truth", "(II)I"⟩
abbrev cX7_worst : ByteArray := prog_1_method_12_code
def yX7_worst : MethodName := ⟨RX7, "worst", "(II)I"⟩
abbrev cX7_rank : ByteArray := prog_1_method_13_code
def yX7_rank : MethodName := ⟨RX7, "rank", "(II)I"⟩
abbrev cX7_width : ByteArray := prog_1_method_14_code
def yX7_width : MethodName := ⟨RX7, "width", "(II)I"⟩
abbrev cX7_settingFor : ByteArray := prog_1_method_15_code
def yX7_settingFor : MethodName := ⟨RX7, "settingFor", "(II)I"⟩
abbrev cX7_count : ByteArray := prog_1_method_16_code
def yX7_count : MethodName := ⟨RX7, "count", "(I)I"⟩
abbrev cX7_undo : ByteArray := prog_1_method_17_code
def yX7_undo : MethodName := ⟨RX7, "undo", "()I"⟩
abbrev cX7_type : ByteArray := prog_1_method_18_code
def yX7_type : MethodName := ⟨RX7, "type", "(I)I"⟩
abbrev cX7_clearText : ByteArray := prog_1_method_19_code
def yX7_clearText : MethodName := ⟨RX7, "clearText", "()I"⟩
abbrev cX7_fault : ByteArray := prog_1_method_20_code
def yX7_fault : MethodName := ⟨RX7, "fault", "(I)I"⟩
abbrev cX7_play : ByteArray := prog_1_method_21_code
def yX7_play : MethodName := ⟨RX7, "play", "()I"⟩
abbrev cX7_packOnTrial : ByteArray := prog_1_method_22_code
def yX7_packOnTrial : MethodName := ⟨RX7, "packOnTrial", "(LQuantileDigests$Digest;)V"⟩
abbrev cX7_isWithin : ByteArray := prog_1_method_23_code
def yX7_isWithin : MethodName := ⟨RX7, "isWithin", "(III)Z"⟩
abbrev cX7_highestSetting : ByteArray := prog_1_method_24_code
def yX7_highestSetting : MethodName := ⟨RX7, "highestSetting", "(I)I"⟩
abbrev cX7_trueIndex : ByteArray := prog_1_method_25_code
def yX7_trueIndex : MethodName := ⟨RX7, "trueIndex", "(II)I"⟩
abbrev cX7_floatBits : ByteArray := prog_1_method_26_code
def yX7_floatBits : MethodName := ⟨RX7, "floatBits", "(F)I"⟩
def RX8 : String := "QuantileDigestsModel"
def TX8 : u_T := fun k => match k with
  | 0 => ("QuantileDigestsModel", "state", "[I", true)
  | 1 => ("QuantileDigestsModel", "history", "[I", true)
  | 2 => ("QuantileDigestsModel", "recorded", "I", false)
  | 3 => ("QuantileDigestsModel", "text", "[I", true)
  | 4 => ("QuantileDigestsModel", "textLength", "I", false)
  | 5 => ("QuantileDigestsModel", "weights", "[I", true)
  | 6 => ("QuantileDigestsModel", "sums", "[I", true)
  | 7 => ("QuantileDigestsModel", "leasts", "[I", true)
  | 8 => ("QuantileDigestsModel", "greatests", "[I", true)
  | 9 => ("QuantileDigestsModel", "many", "I", false)
  | 10 => ("QuantileDigestsModel", "ordered", "[I", true)
  | 11 => ("QuantileDigestsModel", "at", "I", false)
  | 12 => ("QuantileDigestsModel", "reason", "I", false)
  | 13 => ("QuantileDigestsModel", "cause", "I", false)
  | _ => ("QuantileDigestsModel", "would", "[I", true)
def tyX8 : Nat → FieldType := fun k => match k with
  | 0 => .array .int
  | 1 => .array .int
  | 2 => .int
  | 3 => .array .int
  | 4 => .int
  | 5 => .array .int
  | 6 => .array .int
  | 7 => .array .int
  | 8 => .array .int
  | 9 => .int
  | 10 => .array .int
  | 11 => .int
  | 12 => .int
  | 13 => .int
  | _ => .array .int
abbrev wsX80 : List Cond := u_ws RX8 TX8 15
theorem nmX8 : ∀ a, a < 15 → ∀ b, b < 15 → a ≠ b → (TX8 a).2.1 ≠ (TX8 b).2.1 := by decide +kernel
theorem tyX8_ok : ∀ k, k < 15 → parseFieldDescriptor (TX8 k).2.2.1 = some (tyX8 k) := by decide +kernel
abbrev cX8_init : ByteArray := prog_10_method_1_code
def yX8_init : MethodName := ⟨RX8, "<init>", "()V"⟩
abbrev cX8_moves : ByteArray := prog_10_method_3_code
def yX8_moves : MethodName := ⟨RX8, "moves", "([II[II)V"⟩
abbrev cX8_within : ByteArray := prog_10_method_4_code
def yX8_within : MethodName := ⟨RX8, "within", "(III)Z"⟩
abbrev cX8_record : ByteArray := prog_10_method_5_code
def yX8_record : MethodName := ⟨RX8, "record", "()V"⟩
abbrev cX8_isDigest : ByteArray := prog_10_method_6_code
def yX8_isDigest : MethodName := ⟨RX8, "isDigest", "(I)Z"⟩
abbrev cX8_part : ByteArray := prog_10_method_7_code
def yX8_part : MethodName := ⟨RX8, "part", "(II)I"⟩
abbrev cX8_setPart : ByteArray := prog_10_method_8_code
def yX8_setPart : MethodName := ⟨RX8, "setPart", "(III)V"⟩
abbrev cX8_heapPart : ByteArray := prog_10_method_9_code
def yX8_heapPart : MethodName := ⟨RX8, "heapPart", "(III)I"⟩
abbrev cX8_weightOf : ByteArray := prog_10_method_10_code
def yX8_weightOf : MethodName := ⟨RX8, "weightOf", "(I)I"⟩
abbrev cX8_takeHeap : ByteArray := prog_10_method_11_code
def yX8_takeHeap : MethodName := ⟨RX8, "takeHeap", "(IIII)V"⟩
abbrev cX8_takeHeaps : ByteArray := prog_10_method_12_code
def yX8_takeHeaps : MethodName := ⟨RX8, "takeHeaps", "(I)V"⟩
abbrev cX8_takeBuffer : ByteArray := prog_10_method_13_code
def yX8_takeBuffer : MethodName := ⟨RX8, "takeBuffer", "(I)V"⟩
abbrev cX8_copyHeap : ByteArray := prog_10_method_14_code
def yX8_copyHeap : MethodName := ⟨RX8, "copyHeap", "(II)V"⟩
abbrev cX8_putInOrder : ByteArray := prog_10_method_15_code
def yX8_putInOrder : MethodName := ⟨RX8, "putInOrder", "()V"⟩
abbrev cX8_putTogether : ByteArray := prog_10_method_16_code
def yX8_putTogether : MethodName := ⟨RX8, "putTogether", "(I)V"⟩
abbrev cX8_findPacked : ByteArray := prog_10_method_17_code
def yX8_findPacked : MethodName := ⟨RX8, "findPacked", "(I)V"⟩
abbrev cX8_giveHeaps : ByteArray := prog_10_method_18_code
def yX8_giveHeaps : MethodName := ⟨RX8, "giveHeaps", "(I)V"⟩
abbrev cX8_packs : ByteArray := prog_10_method_19_code
def yX8_packs : MethodName := ⟨RX8, "packs", "(I)V"⟩
abbrev cX8_knows : ByteArray := prog_10_method_20_code
def yX8_knows : MethodName := ⟨RX8, "knows", "(II)V"⟩
abbrev cX8_comes : ByteArray := prog_10_method_21_code
def yX8_comes : MethodName := ⟨RX8, "comes", "(II)V"⟩
abbrev cX8_add : ByteArray := prog_10_method_22_code
def yX8_add : MethodName := ⟨RX8, "add", "(III)I"⟩
abbrev cX8_pack : ByteArray := prog_10_method_23_code
def yX8_pack : MethodName := ⟨RX8, "pack", "(I)I"⟩
abbrev cX8_join : ByteArray := prog_10_method_24_code
def yX8_join : MethodName := ⟨RX8, "join", "(II)I"⟩
abbrev cX8_clear : ByteArray := prog_10_method_25_code
def yX8_clear : MethodName := ⟨RX8, "clear", "(I)I"⟩
abbrev cX8_set : ByteArray := prog_10_method_26_code
def yX8_set : MethodName := ⟨RX8, "set", "(II)I"⟩
abbrev cX8_floatBits : ByteArray := prog_10_method_27_code
def yX8_floatBits : MethodName := ⟨RX8, "floatBits", "(II)I"⟩
abbrev cX8_aheadOf : ByteArray := prog_10_method_28_code
def yX8_aheadOf : MethodName := ⟨RX8, "aheadOf", "(II)I"⟩
abbrev cX8_heapOf : ByteArray := prog_10_method_29_code
def yX8_heapOf : MethodName := ⟨RX8, "heapOf", "(III)I"⟩
abbrev cX8_bufferOf : ByteArray := prog_10_method_30_code
def yX8_bufferOf : MethodName := ⟨RX8, "bufferOf", "(II)I"⟩
abbrev cX8_putValuesInOrder : ByteArray := prog_10_method_31_code
def yX8_putValuesInOrder : MethodName := ⟨RX8, "putValuesInOrder", "(I)V"⟩
abbrev cX8_sumOf : ByteArray := prog_10_method_32_code
def yX8_sumOf : MethodName := ⟨RX8, "sumOf", "(I)I"⟩
abbrev cX8_greatestWeight : ByteArray := prog_10_method_33_code
def yX8_greatestWeight : MethodName := ⟨RX8, "greatestWeight", "(I)I"⟩
abbrev cX8_digestOf : ByteArray := prog_10_method_34_code
def yX8_digestOf : MethodName := ⟨RX8, "digestOf", "(II)I"⟩
abbrev cX8_quantileBy : ByteArray := prog_10_method_35_code
def yX8_quantileBy : MethodName := ⟨RX8, "quantileBy", "(II)I"⟩
abbrev cX8_whyNoQuantile : ByteArray := prog_10_method_36_code
def yX8_whyNoQuantile : MethodName := ⟨RX8, "whyNoQuantile", "(III)I"⟩
abbrev cX8_findAll : ByteArray := prog_10_method_37_code
def yX8_findAll : MethodName := ⟨RX8, "findAll", "(I)V"⟩
abbrev cX8_truthBy : ByteArray := prog_10_method_38_code
def yX8_truthBy : MethodName := ⟨RX8, "truthBy", "(II)I"⟩
abbrev cX8_quantile : ByteArray := prog_10_method_39_code
def yX8_quantile : MethodName := ⟨RX8, "quantile", "(II)I"⟩
abbrev cX8_truth : ByteArray := prog_10_method_40_code
def yX8_truth : MethodName := ⟨RX8, "truth", "(II)I"⟩
abbrev cX8_worst : ByteArray := prog_10_method_41_code
def yX8_worst : MethodName := ⟨RX8, "worst", "(II)I"⟩
abbrev cX8_rank : ByteArray := prog_10_method_42_code
def yX8_rank : MethodName := ⟨RX8, "rank", "(II)I"⟩
abbrev cX8_width : ByteArray := prog_10_method_43_code
def yX8_width : MethodName := ⟨RX8, "width", "(II)I"⟩
abbrev cX8_heapsBy : ByteArray := prog_10_method_44_code
def yX8_heapsBy : MethodName := ⟨RX8, "heapsBy", "(II)I"⟩
abbrev cX8_settingFor : ByteArray := prog_10_method_45_code
def yX8_settingFor : MethodName := ⟨RX8, "settingFor", "(II)I"⟩
abbrev cX8_allWeight : ByteArray := prog_10_method_46_code
def yX8_allWeight : MethodName := ⟨RX8, "allWeight", "()I"⟩
abbrev cX8_count : ByteArray := prog_10_method_47_code
def yX8_count : MethodName := ⟨RX8, "count", "(I)I"⟩
abbrev cX8_undo : ByteArray := prog_10_method_48_code
def yX8_undo : MethodName := ⟨RX8, "undo", "()I"⟩
abbrev cX8_type : ByteArray := prog_10_method_49_code
def yX8_type : MethodName := ⟨RX8, "type", "(I)I"⟩
abbrev cX8_clearText : ByteArray := prog_10_method_50_code
def yX8_clearText : MethodName := ⟨RX8, "clearText", "()I"⟩
abbrev cX8_character : ByteArray := prog_10_method_51_code
def yX8_character : MethodName := ⟨RX8, "character", "(I)I"⟩
abbrev cX8_takeNumber : ByteArray := prog_10_method_52_code
def yX8_takeNumber : MethodName := ⟨RX8, "takeNumber", "(I)I"⟩
abbrev cX8_takes : ByteArray := prog_10_method_53_code
def yX8_takes : MethodName := ⟨RX8, "takes", "(I)Z"⟩
abbrev cX8_readsPart : ByteArray := prog_10_method_54_code
def yX8_readsPart : MethodName := ⟨RX8, "readsPart", "(Z)I"⟩
abbrev cX8_findFault : ByteArray := prog_10_method_55_code
def yX8_findFault : MethodName := ⟨RX8, "findFault", "()I"⟩
abbrev cX8_fault : ByteArray := prog_10_method_56_code
def yX8_fault : MethodName := ⟨RX8, "fault", "(I)I"⟩
abbrev cX8_play : ByteArray := prog_10_method_57_code
def yX8_play : MethodName := ⟨RX8, "play", "()I"⟩
def RJ9 : String := "java/lang/Math"
abbrev cJ9_floorDiv_f86c9 : ByteArray := prog_11_method_49_code
def yJ9_floorDiv_f86c9 : MethodName := ⟨RJ9, "floorDiv", "(JJ)J"⟩
abbrev cJ9_abs_0f7a4 : ByteArray := prog_11_method_59_code
def yJ9_abs_0f7a4 : MethodName := ⟨RJ9, "abs", "(I)I"⟩
abbrev cJ9_max_7cf53 : ByteArray := prog_11_method_65_code
def yJ9_max_7cf53 : MethodName := ⟨RJ9, "max", "(II)I"⟩
abbrev cJ9_min_7cf53 : ByteArray := prog_11_method_69_code
def yJ9_min_7cf53 : MethodName := ⟨RJ9, "min", "(II)I"⟩
def RJ10 : String := "java/lang/System"
def RL : String := "QuantileDigestsLaw"
abbrev cL_law : ByteArray := code
def yL_law : MethodName := ⟨RL, "law", "([I)Z"⟩
abbrev vwCl : List vw_C := [(RX0, TX0, 4), (RX1, TX1, 4), (RX2, TX2, 2), (RX3, TX3, 3), (RX4, TX4, 2), (RX5, TX5, 4), (RX6, TX6, 4), (RX7, TX7, 6), (RX8, TX8, 15)]
end
section
def qA : List Cond := lw_tbl.filter goodWord
theorem qa {w : Cond} (h : w ∈ lw_tbl) (g : goodWord w = true) : w ∈ qA := List.mem_filter.mpr ⟨h, g⟩
theorem qA_good {w : Cond} (h : w ∈ qA) : goodWord w = true := (List.mem_filter.mp h).2
theorem qA_tbl {w : Cond} (h : w ∈ qA) : w ∈ lw_tbl := (List.mem_filter.mp h).1
theorem q_0 : Cond.initialized RL ∈ qA := qa (List.mem_of_getElem? (i := 43) (by decide +kernel)) rfl
theorem q_1 : Cond.initialized RX7 ∈ qA := qa (List.mem_of_getElem? (i := 44) (by decide +kernel)) rfl
theorem q_2 : Cond.initialized RX5 ∈ qA := qa (List.mem_of_getElem? (i := 45) (by decide +kernel)) rfl
theorem q_3 : Cond.initialized RX4 ∈ qA := qa (List.mem_of_getElem? (i := 46) (by decide +kernel)) rfl
theorem q_4 : Cond.initialized RJ9 ∈ qA := qa (List.mem_of_getElem? (i := 47) (by decide +kernel)) rfl
theorem q_5 : Cond.initialized RX0 ∈ qA := qa (List.mem_of_getElem? (i := 48) (by decide +kernel)) rfl
theorem q_6 : Cond.initialized RX1 ∈ qA := qa (List.mem_of_getElem? (i := 49) (by decide +kernel)) rfl
theorem q_7 : Cond.initialized RX2 ∈ qA := qa (List.mem_of_getElem? (i := 50) (by decide +kernel)) rfl
theorem q_8 : Cond.initialized RX3 ∈ qA := qa (List.mem_of_getElem? (i := 51) (by decide +kernel)) rfl
theorem q_9 : Cond.initialized RX6 ∈ qA := qa (List.mem_of_getElem? (i := 52) (by decide +kernel)) rfl
theorem q_10 : Cond.initialized RX8 ∈ qA := qa (List.mem_of_getElem? (i := 53) (by decide +kernel)) rfl
theorem q_11 : Cond.initialized RJ10 ∈ qA := qa (List.mem_of_getElem? (i := 54) (by decide +kernel)) rfl
theorem q_12 : Cond.classLink RL 7 RX7 ∈ qA := qa (List.mem_of_getElem? (i := 55) (by decide +kernel)) rfl
theorem q_13 : Cond.instantiable RX7 6 ∈ qA := qa (List.mem_of_getElem? (i := 56) (by decide +kernel)) rfl
theorem q_14 : Cond.methodLink RL 9 yX7_init ∈ qA := qa (List.mem_of_getElem? (i := 57) (by decide +kernel)) rfl
theorem q_15 : Cond.instanceMethod yX7_init ∈ qA := qa (List.mem_of_getElem? (i := 58) (by decide +kernel)) rfl
theorem q_16 : Cond.code yX7_init cX7_init 1 none ∈ qA := qa (List.mem_of_getElem? (i := 59) (by decide +kernel)) rfl
theorem q_17 : Cond.methodLink RX7 3 objectInit ∈ qA := qa (List.mem_of_getElem? (i := 60) (by decide +kernel)) rfl
theorem q_18 : Cond.instanceMethod objectInit ∈ qA := qa (List.mem_of_getElem? (i := 61) (by decide +kernel)) rfl
theorem q_19 : Cond.code objectInit ⟨#[0xb1]⟩ 1 none ∈ qA := qa (List.mem_of_getElem? (i := 62) (by decide +kernel)) rfl
theorem q_20 : Cond.classLink RX7 9 RX5 ∈ qA := qa (List.mem_of_getElem? (i := 63) (by decide +kernel)) rfl
theorem q_21 : Cond.instantiable RX5 4 ∈ qA := qa (List.mem_of_getElem? (i := 64) (by decide +kernel)) rfl
theorem q_22 : Cond.methodLink RX7 11 yX5_init ∈ qA := qa (List.mem_of_getElem? (i := 65) (by decide +kernel)) rfl
theorem q_23 : Cond.instanceMethod yX5_init ∈ qA := qa (List.mem_of_getElem? (i := 66) (by decide +kernel)) rfl
theorem q_24 : Cond.code yX5_init cX5_init 1 none ∈ qA := qa (List.mem_of_getElem? (i := 67) (by decide +kernel)) rfl
theorem q_25 : Cond.methodLink RX5 3 objectInit ∈ qA := qa (List.mem_of_getElem? (i := 68) (by decide +kernel)) rfl
theorem q_26 : Cond.classLink RX5 9 RX4 ∈ qA := qa (List.mem_of_getElem? (i := 69) (by decide +kernel)) rfl
theorem q_27 : Cond.instantiable RX4 2 ∈ qA := qa (List.mem_of_getElem? (i := 70) (by decide +kernel)) rfl
theorem q_28 : Cond.methodLink RX5 11 yX4_init ∈ qA := qa (List.mem_of_getElem? (i := 71) (by decide +kernel)) rfl
theorem q_29 : Cond.instanceMethod yX4_init ∈ qA := qa (List.mem_of_getElem? (i := 72) (by decide +kernel)) rfl
theorem q_30 : Cond.code yX4_init cX4_init 2 none ∈ qA := qa (List.mem_of_getElem? (i := 73) (by decide +kernel)) rfl
theorem q_31 : Cond.methodLink RX4 1 objectInit ∈ qA := qa (List.mem_of_getElem? (i := 74) (by decide +kernel)) rfl
theorem q_32 : Cond.methodLink RX4 7 Lib.Math.max.name ∈ qA := qa (List.mem_of_getElem? (i := 75) (by decide +kernel)) rfl
theorem q_33 : Cond.static Lib.Math.max.name ∈ qA := qa (List.mem_of_getElem? (i := 76) (by decide +kernel)) rfl
theorem q_34 : Cond.code Lib.Math.max.name Lib.Math.max.code 2 (some FieldType.int) ∈ qA := qa (List.mem_of_getElem? (i := 77) (by decide +kernel)) rfl
theorem q_35 : Cond.fieldLink RX4 13 "QuantileDigests$Row" "cells" "[I" ∈ qA := qa (List.mem_of_getElem? (i := 78) (by decide +kernel)) rfl
theorem q_36 : Cond.fieldLink RX4 19 "QuantileDigests$Row" "length" "I" ∈ qA := qa (List.mem_of_getElem? (i := 79) (by decide +kernel)) rfl
theorem q_42 : Cond.arrayClass Jvm.ClassFile.FieldType.int ∈ qA := qa (List.mem_of_getElem? (i := 85) (by decide +kernel)) rfl
theorem q_43 : Cond.classLink RX5 20 RX0 ∈ qA := qa (List.mem_of_getElem? (i := 86) (by decide +kernel)) rfl
theorem q_44 : Cond.instantiable RX0 4 ∈ qA := qa (List.mem_of_getElem? (i := 87) (by decide +kernel)) rfl
theorem q_45 : Cond.methodLinkNest RX5 22 yX0_init RX7 ∈ lw_tbl := List.mem_of_getElem? (i := 88) (by decide +kernel)
theorem q_46 : Cond.instanceMethod yX0_init ∈ qA := qa (List.mem_of_getElem? (i := 89) (by decide +kernel)) rfl
theorem q_47 : Cond.code yX0_init cX0_init 1 none ∈ qA := qa (List.mem_of_getElem? (i := 90) (by decide +kernel)) rfl
theorem q_48 : Cond.methodLink RX0 3 objectInit ∈ qA := qa (List.mem_of_getElem? (i := 91) (by decide +kernel)) rfl
theorem q_49 : Cond.classLink RX0 9 RX1 ∈ qA := qa (List.mem_of_getElem? (i := 92) (by decide +kernel)) rfl
theorem q_50 : Cond.instantiable RX1 4 ∈ qA := qa (List.mem_of_getElem? (i := 93) (by decide +kernel)) rfl
theorem q_51 : Cond.methodLinkNest RX0 11 yX1_init RX7 ∈ lw_tbl := List.mem_of_getElem? (i := 94) (by decide +kernel)
theorem q_52 : Cond.instanceMethod yX1_init ∈ qA := qa (List.mem_of_getElem? (i := 95) (by decide +kernel)) rfl
theorem q_53 : Cond.code yX1_init cX1_init 1 none ∈ qA := qa (List.mem_of_getElem? (i := 96) (by decide +kernel)) rfl
theorem q_54 : Cond.methodLink RX1 3 objectInit ∈ qA := qa (List.mem_of_getElem? (i := 97) (by decide +kernel)) rfl
theorem q_55 : Cond.classLink RX1 9 RX4 ∈ qA := qa (List.mem_of_getElem? (i := 98) (by decide +kernel)) rfl
theorem q_56 : Cond.methodLink RX1 11 yX4_init ∈ qA := qa (List.mem_of_getElem? (i := 99) (by decide +kernel)) rfl
theorem q_57 : Cond.fieldLink RX1 14 "QuantileDigests$Heaps" "weights" "LQuantileDigests$Row;" ∈ qA := qa (List.mem_of_getElem? (i := 100) (by decide +kernel)) rfl
theorem q_58 : Cond.fieldLink RX0 34 "QuantileDigests$Heaps" "weights" "LQuantileDigests$Row;" ∈ qA := qa (List.mem_of_getElem? (i := 101) (by decide +kernel)) rfl
theorem q_59 : Cond.fieldLink RX7 108 "QuantileDigests$Heaps" "weights" "LQuantileDigests$Row;" ∈ qA := qa (List.mem_of_getElem? (i := 102) (by decide +kernel)) rfl
theorem q_60 : Cond.fieldLink RX1 20 "QuantileDigests$Heaps" "sums" "LQuantileDigests$Row;" ∈ qA := qa (List.mem_of_getElem? (i := 103) (by decide +kernel)) rfl
theorem q_61 : Cond.fieldLink RX0 44 "QuantileDigests$Heaps" "sums" "LQuantileDigests$Row;" ∈ qA := qa (List.mem_of_getElem? (i := 104) (by decide +kernel)) rfl
theorem q_62 : Cond.fieldLink RX7 111 "QuantileDigests$Heaps" "sums" "LQuantileDigests$Row;" ∈ qA := qa (List.mem_of_getElem? (i := 105) (by decide +kernel)) rfl
theorem q_63 : Cond.fieldLink RX1 23 "QuantileDigests$Heaps" "leasts" "LQuantileDigests$Row;" ∈ qA := qa (List.mem_of_getElem? (i := 106) (by decide +kernel)) rfl
theorem q_64 : Cond.fieldLink RX0 47 "QuantileDigests$Heaps" "leasts" "LQuantileDigests$Row;" ∈ qA := qa (List.mem_of_getElem? (i := 107) (by decide +kernel)) rfl
theorem q_65 : Cond.fieldLink RX7 114 "QuantileDigests$Heaps" "leasts" "LQuantileDigests$Row;" ∈ qA := qa (List.mem_of_getElem? (i := 108) (by decide +kernel)) rfl
theorem q_66 : Cond.fieldLink RX1 26 "QuantileDigests$Heaps" "greatests" "LQuantileDigests$Row;" ∈ qA := qa (List.mem_of_getElem? (i := 109) (by decide +kernel)) rfl
theorem q_67 : Cond.fieldLink RX0 59 "QuantileDigests$Heaps" "greatests" "LQuantileDigests$Row;" ∈ qA := qa (List.mem_of_getElem? (i := 110) (by decide +kernel)) rfl
theorem q_68 : Cond.fieldLink RX7 117 "QuantileDigests$Heaps" "greatests" "LQuantileDigests$Row;" ∈ qA := qa (List.mem_of_getElem? (i := 111) (by decide +kernel)) rfl
theorem q_78 : Cond.classLink RX0 18 RX4 ∈ qA := qa (List.mem_of_getElem? (i := 121) (by decide +kernel)) rfl
theorem q_79 : Cond.methodLink RX0 20 yX4_init ∈ qA := qa (List.mem_of_getElem? (i := 122) (by decide +kernel)) rfl
theorem q_80 : Cond.fieldLink RX0 12 "QuantileDigests$Digest" "heaps" "LQuantileDigests$Heaps;" ∈ qA := qa (List.mem_of_getElem? (i := 123) (by decide +kernel)) rfl
theorem q_81 : Cond.fieldLink RX7 87 "QuantileDigests$Digest" "heaps" "LQuantileDigests$Heaps;" ∈ qA := qa (List.mem_of_getElem? (i := 124) (by decide +kernel)) rfl
theorem q_82 : Cond.fieldLink RX5 40 "QuantileDigests$Digest" "heaps" "LQuantileDigests$Heaps;" ∈ qA := qa (List.mem_of_getElem? (i := 125) (by decide +kernel)) rfl
theorem q_83 : Cond.fieldLink RX0 23 "QuantileDigests$Digest" "buffer" "LQuantileDigests$Row;" ∈ qA := qa (List.mem_of_getElem? (i := 126) (by decide +kernel)) rfl
theorem q_84 : Cond.fieldLink RX7 134 "QuantileDigests$Digest" "buffer" "LQuantileDigests$Row;" ∈ qA := qa (List.mem_of_getElem? (i := 127) (by decide +kernel)) rfl
theorem q_85 : Cond.fieldLink RX0 27 "QuantileDigests$Digest" "values" "LQuantileDigests$Row;" ∈ qA := qa (List.mem_of_getElem? (i := 128) (by decide +kernel)) rfl
theorem q_86 : Cond.fieldLink RX7 181 "QuantileDigests$Digest" "values" "LQuantileDigests$Row;" ∈ qA := qa (List.mem_of_getElem? (i := 129) (by decide +kernel)) rfl
theorem q_87 : Cond.fieldLink RX0 30 "QuantileDigests$Digest" "packings" "I" ∈ qA := qa (List.mem_of_getElem? (i := 130) (by decide +kernel)) rfl
theorem q_88 : Cond.fieldLink RX7 154 "QuantileDigests$Digest" "packings" "I" ∈ qA := qa (List.mem_of_getElem? (i := 131) (by decide +kernel)) rfl
theorem q_98 : Cond.methodLink RX5 33 yX4_append ∈ qA := qa (List.mem_of_getElem? (i := 141) (by decide +kernel)) rfl
theorem q_99 : Cond.instanceMethod yX4_append ∈ qA := qa (List.mem_of_getElem? (i := 142) (by decide +kernel)) rfl
theorem q_100 : Cond.selects RX4 yX4_append yX4_append ∈ qA := qa (List.mem_of_getElem? (i := 143) (by decide +kernel)) rfl
theorem q_101 : Cond.code yX4_append cX4_append 2 none ∈ qA := qa (List.mem_of_getElem? (i := 144) (by decide +kernel)) rfl
theorem q_102 : Cond.fieldLink RX5 14 "QuantileDigests$State" "settings" "LQuantileDigests$Row;" ∈ qA := qa (List.mem_of_getElem? (i := 145) (by decide +kernel)) rfl
theorem q_103 : Cond.fieldLink RX7 73 "QuantileDigests$State" "settings" "LQuantileDigests$Row;" ∈ qA := qa (List.mem_of_getElem? (i := 146) (by decide +kernel)) rfl
theorem q_104 : Cond.fieldLink RX5 23 "QuantileDigests$State" "first" "LQuantileDigests$Digest;" ∈ qA := qa (List.mem_of_getElem? (i := 147) (by decide +kernel)) rfl
theorem q_105 : Cond.fieldLink RX5 27 "QuantileDigests$State" "second" "LQuantileDigests$Digest;" ∈ qA := qa (List.mem_of_getElem? (i := 148) (by decide +kernel)) rfl
theorem q_106 : Cond.fieldLink RX5 30 "QuantileDigests$State" "third" "LQuantileDigests$Digest;" ∈ qA := qa (List.mem_of_getElem? (i := 149) (by decide +kernel)) rfl
theorem q_116 : Cond.classLink RX7 16 RX2 ∈ qA := qa (List.mem_of_getElem? (i := 159) (by decide +kernel)) rfl
theorem q_117 : Cond.instantiable RX2 2 ∈ qA := qa (List.mem_of_getElem? (i := 160) (by decide +kernel)) rfl
theorem q_118 : Cond.methodLink RX7 18 yX2_init ∈ qA := qa (List.mem_of_getElem? (i := 161) (by decide +kernel)) rfl
theorem q_119 : Cond.instanceMethod yX2_init ∈ qA := qa (List.mem_of_getElem? (i := 162) (by decide +kernel)) rfl
theorem q_120 : Cond.code yX2_init cX2_init 2 none ∈ qA := qa (List.mem_of_getElem? (i := 163) (by decide +kernel)) rfl
theorem q_121 : Cond.methodLink RX2 3 objectInit ∈ qA := qa (List.mem_of_getElem? (i := 164) (by decide +kernel)) rfl
theorem q_122 : Cond.classLink RX2 9 RX5 ∈ qA := qa (List.mem_of_getElem? (i := 165) (by decide +kernel)) rfl
theorem q_123 : Cond.arrayOver (Jvm.ClassFile.FieldType.object "QuantileDigests$State") ∈ lw_tbl := List.mem_of_getElem? (i := 166) (by decide +kernel)
theorem q_124 : Cond.methodLink RX2 21 yX5_init ∈ qA := qa (List.mem_of_getElem? (i := 167) (by decide +kernel)) rfl
theorem q_125 : Cond.fieldLink RX2 11 "QuantileDigests$History" "states" "[LQuantileDigests$State;" ∈ qA := qa (List.mem_of_getElem? (i := 168) (by decide +kernel)) rfl
theorem q_126 : Cond.fieldLink RX2 17 "QuantileDigests$History" "size" "I" ∈ qA := qa (List.mem_of_getElem? (i := 169) (by decide +kernel)) rfl
theorem q_132 : Cond.classLink RX7 23 RX4 ∈ qA := qa (List.mem_of_getElem? (i := 175) (by decide +kernel)) rfl
theorem q_133 : Cond.methodLink RX7 25 yX4_init ∈ qA := qa (List.mem_of_getElem? (i := 176) (by decide +kernel)) rfl
theorem q_134 : Cond.classLink RX7 32 RX3 ∈ qA := qa (List.mem_of_getElem? (i := 177) (by decide +kernel)) rfl
theorem q_135 : Cond.instantiable RX3 3 ∈ qA := qa (List.mem_of_getElem? (i := 178) (by decide +kernel)) rfl
theorem q_136 : Cond.methodLinkNest RX7 34 yX3_init RX7 ∈ lw_tbl := List.mem_of_getElem? (i := 179) (by decide +kernel)
theorem q_137 : Cond.instanceMethod yX3_init ∈ qA := qa (List.mem_of_getElem? (i := 180) (by decide +kernel)) rfl
theorem q_138 : Cond.code yX3_init cX3_init 1 none ∈ qA := qa (List.mem_of_getElem? (i := 181) (by decide +kernel)) rfl
theorem q_139 : Cond.methodLink RX3 3 objectInit ∈ qA := qa (List.mem_of_getElem? (i := 182) (by decide +kernel)) rfl
theorem q_140 : Cond.classLink RX3 9 RX4 ∈ qA := qa (List.mem_of_getElem? (i := 183) (by decide +kernel)) rfl
theorem q_141 : Cond.methodLink RX3 11 yX4_init ∈ qA := qa (List.mem_of_getElem? (i := 184) (by decide +kernel)) rfl
theorem q_142 : Cond.fieldLink RX3 14 "QuantileDigests$Part" "values" "LQuantileDigests$Row;" ∈ qA := qa (List.mem_of_getElem? (i := 185) (by decide +kernel)) rfl
theorem q_143 : Cond.fieldLink RX6 75 "QuantileDigests$Part" "values" "LQuantileDigests$Row;" ∈ qA := qa (List.mem_of_getElem? (i := 186) (by decide +kernel)) rfl
theorem q_144 : Cond.fieldLink RX7 221 "QuantileDigests$Part" "values" "LQuantileDigests$Row;" ∈ qA := qa (List.mem_of_getElem? (i := 187) (by decide +kernel)) rfl
theorem q_145 : Cond.fieldLink RX3 20 "QuantileDigests$Part" "digest" "I" ∈ qA := qa (List.mem_of_getElem? (i := 188) (by decide +kernel)) rfl
theorem q_146 : Cond.fieldLink RX6 68 "QuantileDigests$Part" "digest" "I" ∈ qA := qa (List.mem_of_getElem? (i := 189) (by decide +kernel)) rfl
theorem q_147 : Cond.fieldLink RX7 218 "QuantileDigests$Part" "digest" "I" ∈ qA := qa (List.mem_of_getElem? (i := 190) (by decide +kernel)) rfl
theorem q_148 : Cond.fieldLink RX3 24 "QuantileDigests$Part" "end" "I" ∈ qA := qa (List.mem_of_getElem? (i := 191) (by decide +kernel)) rfl
theorem q_149 : Cond.fieldLink RX6 42 "QuantileDigests$Part" "end" "I" ∈ qA := qa (List.mem_of_getElem? (i := 192) (by decide +kernel)) rfl
theorem q_150 : Cond.fieldLink RX7 222 "QuantileDigests$Part" "end" "I" ∈ qA := qa (List.mem_of_getElem? (i := 193) (by decide +kernel)) rfl
theorem q_158 : Cond.classLink RX7 39 RX6 ∈ qA := qa (List.mem_of_getElem? (i := 201) (by decide +kernel)) rfl
theorem q_159 : Cond.instantiable RX6 4 ∈ qA := qa (List.mem_of_getElem? (i := 202) (by decide +kernel)) rfl
theorem q_160 : Cond.methodLinkNest RX7 41 yX6_init RX7 ∈ lw_tbl := List.mem_of_getElem? (i := 203) (by decide +kernel)
theorem q_161 : Cond.instanceMethod yX6_init ∈ qA := qa (List.mem_of_getElem? (i := 204) (by decide +kernel)) rfl
theorem q_162 : Cond.code yX6_init cX6_init 1 none ∈ qA := qa (List.mem_of_getElem? (i := 205) (by decide +kernel)) rfl
theorem q_163 : Cond.methodLink RX6 3 objectInit ∈ qA := qa (List.mem_of_getElem? (i := 206) (by decide +kernel)) rfl
theorem q_164 : Cond.classLink RX6 9 RX4 ∈ qA := qa (List.mem_of_getElem? (i := 207) (by decide +kernel)) rfl
theorem q_165 : Cond.methodLink RX6 11 yX4_init ∈ qA := qa (List.mem_of_getElem? (i := 208) (by decide +kernel)) rfl
theorem q_166 : Cond.fieldLink RX6 14 "QuantileDigests$TextFault" "weights" "LQuantileDigests$Row;" ∈ qA := qa (List.mem_of_getElem? (i := 209) (by decide +kernel)) rfl
theorem q_167 : Cond.fieldLink RX6 20 "QuantileDigests$TextFault" "position" "I" ∈ qA := qa (List.mem_of_getElem? (i := 210) (by decide +kernel)) rfl
theorem q_168 : Cond.fieldLink RX7 208 "QuantileDigests$TextFault" "position" "I" ∈ qA := qa (List.mem_of_getElem? (i := 211) (by decide +kernel)) rfl
theorem q_169 : Cond.fieldLink RX6 24 "QuantileDigests$TextFault" "reason" "I" ∈ qA := qa (List.mem_of_getElem? (i := 212) (by decide +kernel)) rfl
theorem q_170 : Cond.fieldLink RX7 205 "QuantileDigests$TextFault" "reason" "I" ∈ qA := qa (List.mem_of_getElem? (i := 213) (by decide +kernel)) rfl
theorem q_171 : Cond.fieldLink RX6 27 "QuantileDigests$TextFault" "cause" "I" ∈ qA := qa (List.mem_of_getElem? (i := 214) (by decide +kernel)) rfl
theorem q_172 : Cond.fieldLink RX7 211 "QuantileDigests$TextFault" "cause" "I" ∈ qA := qa (List.mem_of_getElem? (i := 215) (by decide +kernel)) rfl
theorem q_182 : Cond.classLink RX7 46 RX1 ∈ qA := qa (List.mem_of_getElem? (i := 225) (by decide +kernel)) rfl
theorem q_183 : Cond.methodLinkNest RX7 48 yX1_init RX7 ∈ lw_tbl := List.mem_of_getElem? (i := 226) (by decide +kernel)
theorem q_184 : Cond.fieldLink RX7 12 "QuantileDigests" "state" "LQuantileDigests$State;" ∈ qA := qa (List.mem_of_getElem? (i := 227) (by decide +kernel)) rfl
theorem q_185 : Cond.fieldLink RX7 19 "QuantileDigests" "history" "LQuantileDigests$History;" ∈ qA := qa (List.mem_of_getElem? (i := 228) (by decide +kernel)) rfl
theorem q_186 : Cond.fieldLink RX7 28 "QuantileDigests" "text" "LQuantileDigests$Row;" ∈ qA := qa (List.mem_of_getElem? (i := 229) (by decide +kernel)) rfl
theorem q_187 : Cond.fieldLink RX7 35 "QuantileDigests" "part" "LQuantileDigests$Part;" ∈ qA := qa (List.mem_of_getElem? (i := 230) (by decide +kernel)) rfl
theorem q_188 : Cond.fieldLink RX7 42 "QuantileDigests" "textFault" "LQuantileDigests$TextFault;" ∈ qA := qa (List.mem_of_getElem? (i := 231) (by decide +kernel)) rfl
theorem q_189 : Cond.fieldLink RX7 49 "QuantileDigests" "trial" "LQuantileDigests$Heaps;" ∈ qA := qa (List.mem_of_getElem? (i := 232) (by decide +kernel)) rfl
theorem q_203 : Cond.methodLink RL 13 yX7_add ∈ qA := qa (List.mem_of_getElem? (i := 246) (by decide +kernel)) rfl
theorem q_204 : Cond.instanceMethod yX7_add ∈ qA := qa (List.mem_of_getElem? (i := 247) (by decide +kernel)) rfl
theorem q_205 : Cond.selects RX7 yX7_add yX7_add ∈ qA := qa (List.mem_of_getElem? (i := 248) (by decide +kernel)) rfl
theorem q_206 : Cond.code yX7_add cX7_add 6 (some FieldType.int) ∈ qA := qa (List.mem_of_getElem? (i := 249) (by decide +kernel)) rfl
theorem q_207 : Cond.methodLink RX7 53 yX5_digestAt ∈ qA := qa (List.mem_of_getElem? (i := 250) (by decide +kernel)) rfl
theorem q_208 : Cond.instanceMethod yX5_digestAt ∈ qA := qa (List.mem_of_getElem? (i := 251) (by decide +kernel)) rfl
theorem q_209 : Cond.selects RX5 yX5_digestAt yX5_digestAt ∈ qA := qa (List.mem_of_getElem? (i := 252) (by decide +kernel)) rfl
theorem q_210 : Cond.code yX5_digestAt cX5_digestAt 2 (some (FieldType.object "QuantileDigests$Digest")) ∈ qA := qa (List.mem_of_getElem? (i := 253) (by decide +kernel)) rfl
theorem q_211 : Cond.methodLink RX7 57 yX7_isWithin ∈ qA := qa (List.mem_of_getElem? (i := 254) (by decide +kernel)) rfl
theorem q_212 : Cond.static yX7_isWithin ∈ qA := qa (List.mem_of_getElem? (i := 255) (by decide +kernel)) rfl
theorem q_213 : Cond.code yX7_isWithin cX7_isWithin 3 (some FieldType.boolean) ∈ qA := qa (List.mem_of_getElem? (i := 256) (by decide +kernel)) rfl
theorem q_214 : Cond.constant RX7 61 (-1000001 : Int32) ∈ qA := qa (List.mem_of_getElem? (i := 257) (by decide +kernel)) rfl
theorem q_215 : Cond.methodLink RX7 62 yX0_weight ∈ qA := qa (List.mem_of_getElem? (i := 258) (by decide +kernel)) rfl
theorem q_216 : Cond.instanceMethod yX0_weight ∈ qA := qa (List.mem_of_getElem? (i := 259) (by decide +kernel)) rfl
theorem q_217 : Cond.selects RX0 yX0_weight yX0_weight ∈ qA := qa (List.mem_of_getElem? (i := 260) (by decide +kernel)) rfl
theorem q_218 : Cond.code yX0_weight cX0_weight 1 (some FieldType.int) ∈ qA := qa (List.mem_of_getElem? (i := 261) (by decide +kernel)) rfl
theorem q_219 : Cond.methodLink RX0 37 yX4_total ∈ qA := qa (List.mem_of_getElem? (i := 262) (by decide +kernel)) rfl
theorem q_220 : Cond.instanceMethod yX4_total ∈ qA := qa (List.mem_of_getElem? (i := 263) (by decide +kernel)) rfl
theorem q_221 : Cond.selects RX4 yX4_total yX4_total ∈ qA := qa (List.mem_of_getElem? (i := 264) (by decide +kernel)) rfl
theorem q_222 : Cond.code yX4_total cX4_total 3 (some FieldType.int) ∈ qA := qa (List.mem_of_getElem? (i := 265) (by decide +kernel)) rfl
theorem q_223 : Cond.methodLink RX4 23 yX4_at ∈ qA := qa (List.mem_of_getElem? (i := 266) (by decide +kernel)) rfl
theorem q_224 : Cond.instanceMethod yX4_at ∈ qA := qa (List.mem_of_getElem? (i := 267) (by decide +kernel)) rfl
theorem q_225 : Cond.selects RX4 yX4_at yX4_at ∈ qA := qa (List.mem_of_getElem? (i := 268) (by decide +kernel)) rfl
theorem q_226 : Cond.code yX4_at cX4_at 2 (some FieldType.int) ∈ qA := qa (List.mem_of_getElem? (i := 269) (by decide +kernel)) rfl
theorem q_227 : Cond.methodLink RX0 41 yX4_length ∈ qA := qa (List.mem_of_getElem? (i := 270) (by decide +kernel)) rfl
theorem q_228 : Cond.instanceMethod yX4_length ∈ qA := qa (List.mem_of_getElem? (i := 271) (by decide +kernel)) rfl
theorem q_229 : Cond.selects RX4 yX4_length yX4_length ∈ qA := qa (List.mem_of_getElem? (i := 272) (by decide +kernel)) rfl
theorem q_230 : Cond.code yX4_length cX4_length 1 (some FieldType.int) ∈ qA := qa (List.mem_of_getElem? (i := 273) (by decide +kernel)) rfl
theorem q_231 : Cond.constant RX7 68 (-1000003 : Int32) ∈ qA := qa (List.mem_of_getElem? (i := 274) (by decide +kernel)) rfl
theorem q_232 : Cond.methodLink RX7 69 yX2_record ∈ qA := qa (List.mem_of_getElem? (i := 275) (by decide +kernel)) rfl
theorem q_233 : Cond.instanceMethod yX2_record ∈ qA := qa (List.mem_of_getElem? (i := 276) (by decide +kernel)) rfl
theorem q_234 : Cond.selects RX2 yX2_record yX2_record ∈ qA := qa (List.mem_of_getElem? (i := 277) (by decide +kernel)) rfl
theorem q_235 : Cond.code yX2_record cX2_record 3 none ∈ qA := qa (List.mem_of_getElem? (i := 278) (by decide +kernel)) rfl
theorem q_236 : Cond.methodLink RX2 22 yX2_dropOldest ∈ qA := qa (List.mem_of_getElem? (i := 279) (by decide +kernel)) rfl
theorem q_238 : Cond.instanceMethod yX2_dropOldest ∈ qA := qa (List.mem_of_getElem? (i := 281) (by decide +kernel)) rfl
theorem q_239 : Cond.code yX2_dropOldest cX2_dropOldest 3 none ∈ qA := qa (List.mem_of_getElem? (i := 282) (by decide +kernel)) rfl
theorem q_240 : Cond.methodLink RX2 25 yX2_stateAt ∈ qA := qa (List.mem_of_getElem? (i := 283) (by decide +kernel)) rfl
theorem q_242 : Cond.instanceMethod yX2_stateAt ∈ qA := qa (List.mem_of_getElem? (i := 285) (by decide +kernel)) rfl
theorem q_243 : Cond.code yX2_stateAt cX2_stateAt 2 (some (FieldType.object "QuantileDigests$State")) ∈ qA := qa (List.mem_of_getElem? (i := 286) (by decide +kernel)) rfl
theorem q_244 : Cond.methodLink RX2 29 yX5_copyFrom ∈ qA := qa (List.mem_of_getElem? (i := 287) (by decide +kernel)) rfl
theorem q_245 : Cond.instanceMethod yX5_copyFrom ∈ qA := qa (List.mem_of_getElem? (i := 288) (by decide +kernel)) rfl
theorem q_246 : Cond.selects RX5 yX5_copyFrom yX5_copyFrom ∈ qA := qa (List.mem_of_getElem? (i := 289) (by decide +kernel)) rfl
theorem q_247 : Cond.code yX5_copyFrom cX5_copyFrom 2 none ∈ qA := qa (List.mem_of_getElem? (i := 290) (by decide +kernel)) rfl
theorem q_248 : Cond.methodLink RX5 49 yX4_copyFrom ∈ qA := qa (List.mem_of_getElem? (i := 291) (by decide +kernel)) rfl
theorem q_249 : Cond.instanceMethod yX4_copyFrom ∈ qA := qa (List.mem_of_getElem? (i := 292) (by decide +kernel)) rfl
theorem q_250 : Cond.selects RX4 yX4_copyFrom yX4_copyFrom ∈ qA := qa (List.mem_of_getElem? (i := 293) (by decide +kernel)) rfl
theorem q_251 : Cond.code yX4_copyFrom cX4_copyFrom 2 none ∈ qA := qa (List.mem_of_getElem? (i := 294) (by decide +kernel)) rfl
theorem q_252 : Cond.methodLink RX4 35 Lib.Math.min.name ∈ qA := qa (List.mem_of_getElem? (i := 295) (by decide +kernel)) rfl
theorem q_253 : Cond.static Lib.Math.min.name ∈ qA := qa (List.mem_of_getElem? (i := 296) (by decide +kernel)) rfl
theorem q_254 : Cond.code Lib.Math.min.name Lib.Math.min.code 2 (some FieldType.int) ∈ qA := qa (List.mem_of_getElem? (i := 297) (by decide +kernel)) rfl
theorem q_255 : Cond.methodLink RX4 38 arraycopyName ∈ qA := qa (List.mem_of_getElem? (i := 298) (by decide +kernel)) rfl
theorem q_256 : Cond.static arraycopyName ∈ qA := qa (List.mem_of_getElem? (i := 299) (by decide +kernel)) rfl
theorem q_257 : Cond.native arraycopyName ∈ qA := qa (List.mem_of_getElem? (i := 300) (by decide +kernel)) rfl
theorem q_258 : Cond.methodLink RX5 53 yX0_copyFrom ∈ qA := qa (List.mem_of_getElem? (i := 301) (by decide +kernel)) rfl
theorem q_259 : Cond.instanceMethod yX0_copyFrom ∈ qA := qa (List.mem_of_getElem? (i := 302) (by decide +kernel)) rfl
theorem q_260 : Cond.selects RX0 yX0_copyFrom yX0_copyFrom ∈ qA := qa (List.mem_of_getElem? (i := 303) (by decide +kernel)) rfl
theorem q_261 : Cond.code yX0_copyFrom cX0_copyFrom 2 none ∈ qA := qa (List.mem_of_getElem? (i := 304) (by decide +kernel)) rfl
theorem q_262 : Cond.methodLink RX0 97 yX1_copyFrom ∈ qA := qa (List.mem_of_getElem? (i := 305) (by decide +kernel)) rfl
theorem q_263 : Cond.instanceMethod yX1_copyFrom ∈ qA := qa (List.mem_of_getElem? (i := 306) (by decide +kernel)) rfl
theorem q_264 : Cond.selects RX1 yX1_copyFrom yX1_copyFrom ∈ qA := qa (List.mem_of_getElem? (i := 307) (by decide +kernel)) rfl
theorem q_265 : Cond.code yX1_copyFrom cX1_copyFrom 2 none ∈ qA := qa (List.mem_of_getElem? (i := 308) (by decide +kernel)) rfl
theorem q_266 : Cond.methodLink RX1 36 yX4_copyFrom ∈ qA := qa (List.mem_of_getElem? (i := 309) (by decide +kernel)) rfl
theorem q_267 : Cond.methodLink RX0 100 yX4_copyFrom ∈ qA := qa (List.mem_of_getElem? (i := 310) (by decide +kernel)) rfl
theorem q_268 : Cond.methodLink RX7 76 yX0_receive ∈ qA := qa (List.mem_of_getElem? (i := 311) (by decide +kernel)) rfl
theorem q_269 : Cond.instanceMethod yX0_receive ∈ qA := qa (List.mem_of_getElem? (i := 312) (by decide +kernel)) rfl
theorem q_270 : Cond.selects RX0 yX0_receive yX0_receive ∈ qA := qa (List.mem_of_getElem? (i := 313) (by decide +kernel)) rfl
theorem q_271 : Cond.code yX0_receive cX0_receive 3 none ∈ qA := qa (List.mem_of_getElem? (i := 314) (by decide +kernel)) rfl
theorem q_272 : Cond.methodLink RX0 71 yX4_at ∈ qA := qa (List.mem_of_getElem? (i := 315) (by decide +kernel)) rfl
theorem q_273 : Cond.methodLink RX0 75 yX0_packBy ∈ qA := qa (List.mem_of_getElem? (i := 316) (by decide +kernel)) rfl
theorem q_274 : Cond.instanceMethod yX0_packBy ∈ qA := qa (List.mem_of_getElem? (i := 317) (by decide +kernel)) rfl
theorem q_275 : Cond.selects RX0 yX0_packBy yX0_packBy ∈ qA := qa (List.mem_of_getElem? (i := 318) (by decide +kernel)) rfl
theorem q_276 : Cond.code yX0_packBy cX0_packBy 2 none ∈ qA := qa (List.mem_of_getElem? (i := 319) (by decide +kernel)) rfl
theorem q_277 : Cond.methodLink RX0 84 yX1_appendEach ∈ qA := qa (List.mem_of_getElem? (i := 320) (by decide +kernel)) rfl
theorem q_278 : Cond.instanceMethod yX1_appendEach ∈ qA := qa (List.mem_of_getElem? (i := 321) (by decide +kernel)) rfl
theorem q_279 : Cond.selects RX1 yX1_appendEach yX1_appendEach ∈ qA := qa (List.mem_of_getElem? (i := 322) (by decide +kernel)) rfl
theorem q_280 : Cond.code yX1_appendEach cX1_appendEach 4 none ∈ qA := qa (List.mem_of_getElem? (i := 323) (by decide +kernel)) rfl
theorem q_281 : Cond.methodLink RX1 29 yX4_length ∈ qA := qa (List.mem_of_getElem? (i := 324) (by decide +kernel)) rfl
theorem q_282 : Cond.methodLink RX1 40 yX4_at ∈ qA := qa (List.mem_of_getElem? (i := 325) (by decide +kernel)) rfl
theorem q_283 : Cond.methodLink RX1 44 yX4_append ∈ qA := qa (List.mem_of_getElem? (i := 326) (by decide +kernel)) rfl
theorem q_284 : Cond.methodLink RX0 88 yX4_empty ∈ qA := qa (List.mem_of_getElem? (i := 327) (by decide +kernel)) rfl
theorem q_285 : Cond.instanceMethod yX4_empty ∈ qA := qa (List.mem_of_getElem? (i := 328) (by decide +kernel)) rfl
theorem q_286 : Cond.selects RX4 yX4_empty yX4_empty ∈ qA := qa (List.mem_of_getElem? (i := 329) (by decide +kernel)) rfl
theorem q_287 : Cond.code yX4_empty cX4_empty 1 none ∈ qA := qa (List.mem_of_getElem? (i := 330) (by decide +kernel)) rfl
theorem q_288 : Cond.methodLink RX0 91 yX1_packBy ∈ qA := qa (List.mem_of_getElem? (i := 331) (by decide +kernel)) rfl
theorem q_289 : Cond.instanceMethod yX1_packBy ∈ qA := qa (List.mem_of_getElem? (i := 332) (by decide +kernel)) rfl
theorem q_290 : Cond.selects RX1 yX1_packBy yX1_packBy ∈ qA := qa (List.mem_of_getElem? (i := 333) (by decide +kernel)) rfl
theorem q_291 : Cond.code yX1_packBy cX1_packBy 2 none ∈ qA := qa (List.mem_of_getElem? (i := 334) (by decide +kernel)) rfl
theorem q_292 : Cond.methodLink RX1 53 yX1_order ∈ qA := qa (List.mem_of_getElem? (i := 335) (by decide +kernel)) rfl
theorem q_294 : Cond.instanceMethod yX1_order ∈ qA := qa (List.mem_of_getElem? (i := 337) (by decide +kernel)) rfl
theorem q_295 : Cond.code yX1_order cX1_order 3 none ∈ qA := qa (List.mem_of_getElem? (i := 338) (by decide +kernel)) rfl
theorem q_296 : Cond.methodLink RX1 50 yX1_size ∈ qA := qa (List.mem_of_getElem? (i := 339) (by decide +kernel)) rfl
theorem q_297 : Cond.instanceMethod yX1_size ∈ qA := qa (List.mem_of_getElem? (i := 340) (by decide +kernel)) rfl
theorem q_298 : Cond.selects RX1 yX1_size yX1_size ∈ qA := qa (List.mem_of_getElem? (i := 341) (by decide +kernel)) rfl
theorem q_299 : Cond.code yX1_size cX1_size 1 (some FieldType.int) ∈ qA := qa (List.mem_of_getElem? (i := 342) (by decide +kernel)) rfl
theorem q_300 : Cond.methodLink RX1 59 yX1_isMiddleAbove ∈ qA := qa (List.mem_of_getElem? (i := 343) (by decide +kernel)) rfl
theorem q_302 : Cond.instanceMethod yX1_isMiddleAbove ∈ qA := qa (List.mem_of_getElem? (i := 345) (by decide +kernel)) rfl
theorem q_303 : Cond.code yX1_isMiddleAbove cX1_isMiddleAbove 7 (some FieldType.boolean) ∈ qA := qa (List.mem_of_getElem? (i := 346) (by decide +kernel)) rfl
theorem q_304 : Cond.methodLink RX1 63 yX1_exchange ∈ qA := qa (List.mem_of_getElem? (i := 347) (by decide +kernel)) rfl
theorem q_306 : Cond.instanceMethod yX1_exchange ∈ qA := qa (List.mem_of_getElem? (i := 349) (by decide +kernel)) rfl
theorem q_307 : Cond.code yX1_exchange cX1_exchange 3 none ∈ qA := qa (List.mem_of_getElem? (i := 350) (by decide +kernel)) rfl
theorem q_308 : Cond.methodLink RX1 67 yX4_exchange ∈ qA := qa (List.mem_of_getElem? (i := 351) (by decide +kernel)) rfl
theorem q_309 : Cond.instanceMethod yX4_exchange ∈ qA := qa (List.mem_of_getElem? (i := 352) (by decide +kernel)) rfl
theorem q_310 : Cond.selects RX4 yX4_exchange yX4_exchange ∈ qA := qa (List.mem_of_getElem? (i := 353) (by decide +kernel)) rfl
theorem q_311 : Cond.code yX4_exchange cX4_exchange 4 none ∈ qA := qa (List.mem_of_getElem? (i := 354) (by decide +kernel)) rfl
theorem q_312 : Cond.methodLink RX1 56 yX1_putTogether ∈ qA := qa (List.mem_of_getElem? (i := 355) (by decide +kernel)) rfl
theorem q_314 : Cond.instanceMethod yX1_putTogether ∈ qA := qa (List.mem_of_getElem? (i := 357) (by decide +kernel)) rfl
theorem q_315 : Cond.code yX1_putTogether cX1_putTogether 7 none ∈ qA := qa (List.mem_of_getElem? (i := 358) (by decide +kernel)) rfl
theorem q_316 : Cond.methodLink RX1 68 yX4_total ∈ qA := qa (List.mem_of_getElem? (i := 359) (by decide +kernel)) rfl
theorem q_317 : Cond.methodLink RX1 71 yX1_isWithinPlace ∈ qA := qa (List.mem_of_getElem? (i := 360) (by decide +kernel)) rfl
theorem q_318 : Cond.static yX1_isWithinPlace ∈ qA := qa (List.mem_of_getElem? (i := 361) (by decide +kernel)) rfl
theorem q_319 : Cond.code yX1_isWithinPlace cX1_isWithinPlace 4 (some FieldType.boolean) ∈ qA := qa (List.mem_of_getElem? (i := 362) (by decide +kernel)) rfl
theorem q_320 : Cond.methodLink RX1 75 yX1_unite ∈ qA := qa (List.mem_of_getElem? (i := 363) (by decide +kernel)) rfl
theorem q_322 : Cond.instanceMethod yX1_unite ∈ qA := qa (List.mem_of_getElem? (i := 365) (by decide +kernel)) rfl
theorem q_323 : Cond.code yX1_unite cX1_unite 3 none ∈ qA := qa (List.mem_of_getElem? (i := 366) (by decide +kernel)) rfl
theorem q_324 : Cond.methodLink RX1 81 yX4_put ∈ qA := qa (List.mem_of_getElem? (i := 367) (by decide +kernel)) rfl
theorem q_325 : Cond.instanceMethod yX4_put ∈ qA := qa (List.mem_of_getElem? (i := 368) (by decide +kernel)) rfl
theorem q_326 : Cond.selects RX4 yX4_put yX4_put ∈ qA := qa (List.mem_of_getElem? (i := 369) (by decide +kernel)) rfl
theorem q_327 : Cond.code yX4_put cX4_put 3 none ∈ qA := qa (List.mem_of_getElem? (i := 370) (by decide +kernel)) rfl
theorem q_328 : Cond.methodLink RX1 84 Lib.Math.min.name ∈ qA := qa (List.mem_of_getElem? (i := 371) (by decide +kernel)) rfl
theorem q_329 : Cond.methodLink RX1 90 Lib.Math.max.name ∈ qA := qa (List.mem_of_getElem? (i := 372) (by decide +kernel)) rfl
theorem q_330 : Cond.methodLink RX1 78 yX1_shortenTo ∈ qA := qa (List.mem_of_getElem? (i := 373) (by decide +kernel)) rfl
theorem q_332 : Cond.instanceMethod yX1_shortenTo ∈ qA := qa (List.mem_of_getElem? (i := 375) (by decide +kernel)) rfl
theorem q_333 : Cond.code yX1_shortenTo cX1_shortenTo 2 none ∈ qA := qa (List.mem_of_getElem? (i := 376) (by decide +kernel)) rfl
theorem q_334 : Cond.methodLink RX1 93 yX4_shortenTo ∈ qA := qa (List.mem_of_getElem? (i := 377) (by decide +kernel)) rfl
theorem q_335 : Cond.instanceMethod yX4_shortenTo ∈ qA := qa (List.mem_of_getElem? (i := 378) (by decide +kernel)) rfl
theorem q_336 : Cond.selects RX4 yX4_shortenTo yX4_shortenTo ∈ qA := qa (List.mem_of_getElem? (i := 379) (by decide +kernel)) rfl
theorem q_337 : Cond.code yX4_shortenTo cX4_shortenTo 2 none ∈ qA := qa (List.mem_of_getElem? (i := 380) (by decide +kernel)) rfl
theorem q_338 : Cond.methodLink RX0 78 yX4_append ∈ qA := qa (List.mem_of_getElem? (i := 381) (by decide +kernel)) rfl
theorem q_339 : Cond.methodLink RX0 81 yX4_insertInOrder ∈ qA := qa (List.mem_of_getElem? (i := 382) (by decide +kernel)) rfl
theorem q_340 : Cond.instanceMethod yX4_insertInOrder ∈ qA := qa (List.mem_of_getElem? (i := 383) (by decide +kernel)) rfl
theorem q_341 : Cond.selects RX4 yX4_insertInOrder yX4_insertInOrder ∈ qA := qa (List.mem_of_getElem? (i := 384) (by decide +kernel)) rfl
theorem q_342 : Cond.code yX4_insertInOrder cX4_insertInOrder 3 none ∈ qA := qa (List.mem_of_getElem? (i := 385) (by decide +kernel)) rfl
theorem q_343 : Cond.methodLink RX4 27 yX4_append ∈ qA := qa (List.mem_of_getElem? (i := 386) (by decide +kernel)) rfl
theorem q_344 : Cond.methodLink RX4 31 yX4_exchange ∈ qA := qa (List.mem_of_getElem? (i := 387) (by decide +kernel)) rfl
theorem q_345 : Cond.methodLink RL 18 yX7_pack ∈ qA := qa (List.mem_of_getElem? (i := 388) (by decide +kernel)) rfl
theorem q_346 : Cond.instanceMethod yX7_pack ∈ qA := qa (List.mem_of_getElem? (i := 389) (by decide +kernel)) rfl
theorem q_347 : Cond.selects RX7 yX7_pack yX7_pack ∈ qA := qa (List.mem_of_getElem? (i := 390) (by decide +kernel)) rfl
theorem q_348 : Cond.code yX7_pack cX7_pack 3 (some FieldType.int) ∈ qA := qa (List.mem_of_getElem? (i := 391) (by decide +kernel)) rfl
theorem q_349 : Cond.methodLink RX7 80 yX4_at ∈ qA := qa (List.mem_of_getElem? (i := 392) (by decide +kernel)) rfl
theorem q_350 : Cond.methodLink RX7 84 yX0_packBy ∈ qA := qa (List.mem_of_getElem? (i := 393) (by decide +kernel)) rfl
theorem q_351 : Cond.methodLink RX7 90 yX1_size ∈ qA := qa (List.mem_of_getElem? (i := 394) (by decide +kernel)) rfl
theorem q_352 : Cond.methodLink RL 23 yX7_join ∈ qA := qa (List.mem_of_getElem? (i := 395) (by decide +kernel)) rfl
theorem q_353 : Cond.instanceMethod yX7_join ∈ qA := qa (List.mem_of_getElem? (i := 396) (by decide +kernel)) rfl
theorem q_354 : Cond.selects RX7 yX7_join yX7_join ∈ qA := qa (List.mem_of_getElem? (i := 397) (by decide +kernel)) rfl
theorem q_355 : Cond.code yX7_join cX7_join 5 (some FieldType.int) ∈ qA := qa (List.mem_of_getElem? (i := 398) (by decide +kernel)) rfl
theorem q_356 : Cond.methodLink RX7 93 yX0_takeOver ∈ qA := qa (List.mem_of_getElem? (i := 399) (by decide +kernel)) rfl
theorem q_357 : Cond.instanceMethod yX0_takeOver ∈ qA := qa (List.mem_of_getElem? (i := 400) (by decide +kernel)) rfl
theorem q_358 : Cond.selects RX0 yX0_takeOver yX0_takeOver ∈ qA := qa (List.mem_of_getElem? (i := 401) (by decide +kernel)) rfl
theorem q_359 : Cond.code yX0_takeOver cX0_takeOver 4 none ∈ qA := qa (List.mem_of_getElem? (i := 402) (by decide +kernel)) rfl
theorem q_360 : Cond.methodLink RX0 92 yX1_appendAll ∈ qA := qa (List.mem_of_getElem? (i := 403) (by decide +kernel)) rfl
theorem q_361 : Cond.instanceMethod yX1_appendAll ∈ qA := qa (List.mem_of_getElem? (i := 404) (by decide +kernel)) rfl
theorem q_362 : Cond.selects RX1 yX1_appendAll yX1_appendAll ∈ qA := qa (List.mem_of_getElem? (i := 405) (by decide +kernel)) rfl
theorem q_363 : Cond.code yX1_appendAll cX1_appendAll 2 none ∈ qA := qa (List.mem_of_getElem? (i := 406) (by decide +kernel)) rfl
theorem q_364 : Cond.methodLink RX1 47 yX4_appendAll ∈ qA := qa (List.mem_of_getElem? (i := 407) (by decide +kernel)) rfl
theorem q_365 : Cond.instanceMethod yX4_appendAll ∈ qA := qa (List.mem_of_getElem? (i := 408) (by decide +kernel)) rfl
theorem q_366 : Cond.selects RX4 yX4_appendAll yX4_appendAll ∈ qA := qa (List.mem_of_getElem? (i := 409) (by decide +kernel)) rfl
theorem q_367 : Cond.code yX4_appendAll cX4_appendAll 3 none ∈ qA := qa (List.mem_of_getElem? (i := 410) (by decide +kernel)) rfl
theorem q_368 : Cond.methodLink RL 28 yX7_clear ∈ qA := qa (List.mem_of_getElem? (i := 411) (by decide +kernel)) rfl
theorem q_369 : Cond.instanceMethod yX7_clear ∈ qA := qa (List.mem_of_getElem? (i := 412) (by decide +kernel)) rfl
theorem q_370 : Cond.selects RX7 yX7_clear yX7_clear ∈ qA := qa (List.mem_of_getElem? (i := 413) (by decide +kernel)) rfl
theorem q_371 : Cond.code yX7_clear cX7_clear 4 (some FieldType.int) ∈ qA := qa (List.mem_of_getElem? (i := 414) (by decide +kernel)) rfl
theorem q_372 : Cond.methodLink RX7 97 yX0_empty ∈ qA := qa (List.mem_of_getElem? (i := 415) (by decide +kernel)) rfl
theorem q_373 : Cond.instanceMethod yX0_empty ∈ qA := qa (List.mem_of_getElem? (i := 416) (by decide +kernel)) rfl
theorem q_374 : Cond.selects RX0 yX0_empty yX0_empty ∈ qA := qa (List.mem_of_getElem? (i := 417) (by decide +kernel)) rfl
theorem q_375 : Cond.code yX0_empty cX0_empty 1 none ∈ qA := qa (List.mem_of_getElem? (i := 418) (by decide +kernel)) rfl
theorem q_376 : Cond.methodLink RX0 96 yX1_empty ∈ qA := qa (List.mem_of_getElem? (i := 419) (by decide +kernel)) rfl
theorem q_377 : Cond.instanceMethod yX1_empty ∈ qA := qa (List.mem_of_getElem? (i := 420) (by decide +kernel)) rfl
theorem q_378 : Cond.selects RX1 yX1_empty yX1_empty ∈ qA := qa (List.mem_of_getElem? (i := 421) (by decide +kernel)) rfl
theorem q_379 : Cond.code yX1_empty cX1_empty 1 none ∈ qA := qa (List.mem_of_getElem? (i := 422) (by decide +kernel)) rfl
theorem q_380 : Cond.methodLink RX1 33 yX4_empty ∈ qA := qa (List.mem_of_getElem? (i := 423) (by decide +kernel)) rfl
theorem q_381 : Cond.methodLink RL 32 yX7_set ∈ qA := qa (List.mem_of_getElem? (i := 424) (by decide +kernel)) rfl
theorem q_382 : Cond.instanceMethod yX7_set ∈ qA := qa (List.mem_of_getElem? (i := 425) (by decide +kernel)) rfl
theorem q_383 : Cond.selects RX7 yX7_set yX7_set ∈ qA := qa (List.mem_of_getElem? (i := 426) (by decide +kernel)) rfl
theorem q_384 : Cond.code yX7_set cX7_set 4 (some FieldType.int) ∈ qA := qa (List.mem_of_getElem? (i := 427) (by decide +kernel)) rfl
theorem q_385 : Cond.methodLink RX7 100 yX7_highestSetting ∈ qA := qa (List.mem_of_getElem? (i := 428) (by decide +kernel)) rfl
theorem q_386 : Cond.static yX7_highestSetting ∈ qA := qa (List.mem_of_getElem? (i := 429) (by decide +kernel)) rfl
theorem q_387 : Cond.code yX7_highestSetting cX7_highestSetting 1 (some FieldType.int) ∈ qA := qa (List.mem_of_getElem? (i := 430) (by decide +kernel)) rfl
theorem q_388 : Cond.methodLink RX7 103 yX4_put ∈ qA := qa (List.mem_of_getElem? (i := 431) (by decide +kernel)) rfl
theorem q_389 : Cond.methodLink RL 36 yX7_heapOf ∈ qA := qa (List.mem_of_getElem? (i := 432) (by decide +kernel)) rfl
theorem q_390 : Cond.instanceMethod yX7_heapOf ∈ qA := qa (List.mem_of_getElem? (i := 433) (by decide +kernel)) rfl
theorem q_391 : Cond.selects RX7 yX7_heapOf yX7_heapOf ∈ qA := qa (List.mem_of_getElem? (i := 434) (by decide +kernel)) rfl
theorem q_392 : Cond.code yX7_heapOf cX7_heapOf 6 (some FieldType.int) ∈ qA := qa (List.mem_of_getElem? (i := 435) (by decide +kernel)) rfl
theorem q_393 : Cond.constant RX7 107 (-1000004 : Int32) ∈ qA := qa (List.mem_of_getElem? (i := 436) (by decide +kernel)) rfl
theorem q_394 : Cond.methodLink RX7 120 yX1_wholeMiddle ∈ qA := qa (List.mem_of_getElem? (i := 437) (by decide +kernel)) rfl
theorem q_395 : Cond.instanceMethod yX1_wholeMiddle ∈ qA := qa (List.mem_of_getElem? (i := 438) (by decide +kernel)) rfl
theorem q_396 : Cond.selects RX1 yX1_wholeMiddle yX1_wholeMiddle ∈ qA := qa (List.mem_of_getElem? (i := 439) (by decide +kernel)) rfl
theorem q_397 : Cond.code yX1_wholeMiddle cX1_wholeMiddle 3 (some FieldType.int) ∈ qA := qa (List.mem_of_getElem? (i := 440) (by decide +kernel)) rfl
theorem q_398 : Cond.methodLink RX7 123 yX1_weightAheadOf ∈ qA := qa (List.mem_of_getElem? (i := 441) (by decide +kernel)) rfl
theorem q_399 : Cond.instanceMethod yX1_weightAheadOf ∈ qA := qa (List.mem_of_getElem? (i := 442) (by decide +kernel)) rfl
theorem q_400 : Cond.selects RX1 yX1_weightAheadOf yX1_weightAheadOf ∈ qA := qa (List.mem_of_getElem? (i := 443) (by decide +kernel)) rfl
theorem q_401 : Cond.code yX1_weightAheadOf cX1_weightAheadOf 4 (some FieldType.int) ∈ qA := qa (List.mem_of_getElem? (i := 444) (by decide +kernel)) rfl
theorem q_402 : Cond.methodLink RX7 126 yX1_floatMiddle ∈ qA := qa (List.mem_of_getElem? (i := 445) (by decide +kernel)) rfl
theorem q_403 : Cond.instanceMethod yX1_floatMiddle ∈ qA := qa (List.mem_of_getElem? (i := 446) (by decide +kernel)) rfl
theorem q_404 : Cond.selects RX1 yX1_floatMiddle yX1_floatMiddle ∈ qA := qa (List.mem_of_getElem? (i := 447) (by decide +kernel)) rfl
theorem q_405 : Cond.code yX1_floatMiddle cX1_floatMiddle 3 (some FieldType.float) ∈ qA := qa (List.mem_of_getElem? (i := 448) (by decide +kernel)) rfl
theorem q_406 : Cond.methodLink RX7 130 yX7_floatBits ∈ qA := qa (List.mem_of_getElem? (i := 449) (by decide +kernel)) rfl
theorem q_407 : Cond.static yX7_floatBits ∈ qA := qa (List.mem_of_getElem? (i := 450) (by decide +kernel)) rfl
theorem q_408 : Cond.code yX7_floatBits cX7_floatBits 4 (some FieldType.int) ∈ qA := qa (List.mem_of_getElem? (i := 451) (by decide +kernel)) rfl
theorem q_409 : Cond.constantFloat RX7 229 (1056964608 : UInt32) ∈ qA := qa (List.mem_of_getElem? (i := 452) (by decide +kernel)) rfl
theorem q_410 : Cond.constantFloat RX7 230 (1258291200 : UInt32) ∈ qA := qa (List.mem_of_getElem? (i := 453) (by decide +kernel)) rfl
theorem q_411 : Cond.constant RX7 231 (8388608 : Int32) ∈ qA := qa (List.mem_of_getElem? (i := 454) (by decide +kernel)) rfl
theorem q_412 : Cond.methodLink RL 40 yX7_bufferOf ∈ qA := qa (List.mem_of_getElem? (i := 455) (by decide +kernel)) rfl
theorem q_413 : Cond.instanceMethod yX7_bufferOf ∈ qA := qa (List.mem_of_getElem? (i := 456) (by decide +kernel)) rfl
theorem q_414 : Cond.selects RX7 yX7_bufferOf yX7_bufferOf ∈ qA := qa (List.mem_of_getElem? (i := 457) (by decide +kernel)) rfl
theorem q_415 : Cond.code yX7_bufferOf cX7_bufferOf 4 (some FieldType.int) ∈ qA := qa (List.mem_of_getElem? (i := 458) (by decide +kernel)) rfl
theorem q_416 : Cond.methodLink RX7 137 yX4_length ∈ qA := qa (List.mem_of_getElem? (i := 459) (by decide +kernel)) rfl
theorem q_417 : Cond.methodLink RL 44 yX7_digestOf ∈ qA := qa (List.mem_of_getElem? (i := 460) (by decide +kernel)) rfl
theorem q_418 : Cond.instanceMethod yX7_digestOf ∈ qA := qa (List.mem_of_getElem? (i := 461) (by decide +kernel)) rfl
theorem q_419 : Cond.selects RX7 yX7_digestOf yX7_digestOf ∈ qA := qa (List.mem_of_getElem? (i := 462) (by decide +kernel)) rfl
theorem q_420 : Cond.code yX7_digestOf cX7_digestOf 4 (some FieldType.int) ∈ qA := qa (List.mem_of_getElem? (i := 463) (by decide +kernel)) rfl
theorem q_421 : Cond.methodLink RX7 140 yX0_least ∈ qA := qa (List.mem_of_getElem? (i := 464) (by decide +kernel)) rfl
theorem q_422 : Cond.instanceMethod yX0_least ∈ qA := qa (List.mem_of_getElem? (i := 465) (by decide +kernel)) rfl
theorem q_423 : Cond.selects RX0 yX0_least yX0_least ∈ qA := qa (List.mem_of_getElem? (i := 466) (by decide +kernel)) rfl
theorem q_424 : Cond.code yX0_least cX0_least 1 (some FieldType.int) ∈ qA := qa (List.mem_of_getElem? (i := 467) (by decide +kernel)) rfl
theorem q_425 : Cond.methodLink RX0 50 yX4_least ∈ qA := qa (List.mem_of_getElem? (i := 468) (by decide +kernel)) rfl
theorem q_426 : Cond.instanceMethod yX4_least ∈ qA := qa (List.mem_of_getElem? (i := 469) (by decide +kernel)) rfl
theorem q_427 : Cond.selects RX4 yX4_least yX4_least ∈ qA := qa (List.mem_of_getElem? (i := 470) (by decide +kernel)) rfl
theorem q_428 : Cond.code yX4_least cX4_least 3 (some FieldType.int) ∈ qA := qa (List.mem_of_getElem? (i := 471) (by decide +kernel)) rfl
theorem q_429 : Cond.constant RX4 46 (2147483647 : Int32) ∈ qA := qa (List.mem_of_getElem? (i := 472) (by decide +kernel)) rfl
theorem q_430 : Cond.methodLink RX0 53 Lib.Math.min.name ∈ qA := qa (List.mem_of_getElem? (i := 473) (by decide +kernel)) rfl
theorem q_431 : Cond.methodLink RX7 143 yX0_greatest ∈ qA := qa (List.mem_of_getElem? (i := 474) (by decide +kernel)) rfl
theorem q_432 : Cond.instanceMethod yX0_greatest ∈ qA := qa (List.mem_of_getElem? (i := 475) (by decide +kernel)) rfl
theorem q_433 : Cond.selects RX0 yX0_greatest yX0_greatest ∈ qA := qa (List.mem_of_getElem? (i := 476) (by decide +kernel)) rfl
theorem q_434 : Cond.code yX0_greatest cX0_greatest 1 (some FieldType.int) ∈ qA := qa (List.mem_of_getElem? (i := 477) (by decide +kernel)) rfl
theorem q_435 : Cond.methodLink RX0 62 yX4_greatest ∈ qA := qa (List.mem_of_getElem? (i := 478) (by decide +kernel)) rfl
theorem q_436 : Cond.instanceMethod yX4_greatest ∈ qA := qa (List.mem_of_getElem? (i := 479) (by decide +kernel)) rfl
theorem q_437 : Cond.selects RX4 yX4_greatest yX4_greatest ∈ qA := qa (List.mem_of_getElem? (i := 480) (by decide +kernel)) rfl
theorem q_438 : Cond.code yX4_greatest cX4_greatest 3 (some FieldType.int) ∈ qA := qa (List.mem_of_getElem? (i := 481) (by decide +kernel)) rfl
theorem q_439 : Cond.constant RX4 47 (-2147483648 : Int32) ∈ qA := qa (List.mem_of_getElem? (i := 482) (by decide +kernel)) rfl
theorem q_440 : Cond.methodLink RX0 65 Lib.Math.max.name ∈ qA := qa (List.mem_of_getElem? (i := 483) (by decide +kernel)) rfl
theorem q_441 : Cond.methodLink RX7 146 yX0_sum ∈ qA := qa (List.mem_of_getElem? (i := 484) (by decide +kernel)) rfl
theorem q_442 : Cond.instanceMethod yX0_sum ∈ qA := qa (List.mem_of_getElem? (i := 485) (by decide +kernel)) rfl
theorem q_443 : Cond.selects RX0 yX0_sum yX0_sum ∈ qA := qa (List.mem_of_getElem? (i := 486) (by decide +kernel)) rfl
theorem q_444 : Cond.code yX0_sum cX0_sum 1 (some FieldType.int) ∈ qA := qa (List.mem_of_getElem? (i := 487) (by decide +kernel)) rfl
theorem q_445 : Cond.methodLink RX7 149 yX7_packOnTrial ∈ qA := qa (List.mem_of_getElem? (i := 488) (by decide +kernel)) rfl
theorem q_447 : Cond.instanceMethod yX7_packOnTrial ∈ qA := qa (List.mem_of_getElem? (i := 490) (by decide +kernel)) rfl
theorem q_448 : Cond.code yX7_packOnTrial cX7_packOnTrial 2 none ∈ qA := qa (List.mem_of_getElem? (i := 491) (by decide +kernel)) rfl
theorem q_449 : Cond.methodLink RX7 225 yX1_copyFrom ∈ qA := qa (List.mem_of_getElem? (i := 492) (by decide +kernel)) rfl
theorem q_450 : Cond.methodLink RX7 184 yX1_appendEach ∈ qA := qa (List.mem_of_getElem? (i := 493) (by decide +kernel)) rfl
theorem q_451 : Cond.methodLink RX7 188 yX1_packBy ∈ qA := qa (List.mem_of_getElem? (i := 494) (by decide +kernel)) rfl
theorem q_452 : Cond.methodLink RX7 153 yX4_greatest ∈ qA := qa (List.mem_of_getElem? (i := 495) (by decide +kernel)) rfl
theorem q_453 : Cond.methodLink RL 48 yX7_quantile ∈ qA := qa (List.mem_of_getElem? (i := 496) (by decide +kernel)) rfl
theorem q_454 : Cond.instanceMethod yX7_quantile ∈ qA := qa (List.mem_of_getElem? (i := 497) (by decide +kernel)) rfl
theorem q_455 : Cond.selects RX7 yX7_quantile yX7_quantile ∈ qA := qa (List.mem_of_getElem? (i := 498) (by decide +kernel)) rfl
theorem q_456 : Cond.code yX7_quantile cX7_quantile 4 (some FieldType.int) ∈ qA := qa (List.mem_of_getElem? (i := 499) (by decide +kernel)) rfl
theorem q_457 : Cond.constant RX7 158 (-1000002 : Int32) ∈ qA := qa (List.mem_of_getElem? (i := 500) (by decide +kernel)) rfl
theorem q_458 : Cond.methodLink RX7 159 yX1_quantileAt ∈ qA := qa (List.mem_of_getElem? (i := 501) (by decide +kernel)) rfl
theorem q_459 : Cond.instanceMethod yX1_quantileAt ∈ qA := qa (List.mem_of_getElem? (i := 502) (by decide +kernel)) rfl
theorem q_460 : Cond.selects RX1 yX1_quantileAt yX1_quantileAt ∈ qA := qa (List.mem_of_getElem? (i := 503) (by decide +kernel)) rfl
theorem q_461 : Cond.code yX1_quantileAt cX1_quantileAt 12 (some FieldType.int) ∈ qA := qa (List.mem_of_getElem? (i := 504) (by decide +kernel)) rfl
theorem q_462 : Cond.methodLink RX1 94 yX4_least ∈ qA := qa (List.mem_of_getElem? (i := 505) (by decide +kernel)) rfl
theorem q_463 : Cond.methodLink RX1 97 yX1_between ∈ qA := qa (List.mem_of_getElem? (i := 506) (by decide +kernel)) rfl
theorem q_464 : Cond.static yX1_between ∈ qA := qa (List.mem_of_getElem? (i := 507) (by decide +kernel)) rfl
theorem q_465 : Cond.code yX1_between cX1_between 22 (some FieldType.int) ∈ qA := qa (List.mem_of_getElem? (i := 508) (by decide +kernel)) rfl
theorem q_466 : Cond.methodLink RX1 104 yJ9_floorDiv_f86c9 ∈ qA := qa (List.mem_of_getElem? (i := 509) (by decide +kernel)) rfl
theorem q_467 : Cond.static yJ9_floorDiv_f86c9 ∈ qA := qa (List.mem_of_getElem? (i := 510) (by decide +kernel)) rfl
theorem q_468 : Cond.code yJ9_floorDiv_f86c9 cJ9_floorDiv_f86c9 6 (some FieldType.long) ∈ qA := qa (List.mem_of_getElem? (i := 511) (by decide +kernel)) rfl
theorem q_469 : Cond.methodLink RX1 101 yX4_greatest ∈ qA := qa (List.mem_of_getElem? (i := 512) (by decide +kernel)) rfl
theorem q_470 : Cond.methodLink RL 52 yX7_truth ∈ qA := qa (List.mem_of_getElem? (i := 513) (by decide +kernel)) rfl
theorem q_471 : Cond.instanceMethod yX7_truth ∈ qA := qa (List.mem_of_getElem? (i := 514) (by decide +kernel)) rfl
theorem q_472 : Cond.selects RX7 yX7_truth yX7_truth ∈ qA := qa (List.mem_of_getElem? (i := 515) (by decide +kernel)) rfl
theorem q_473 : Cond.code yX7_truth cX7_truth 4 (some FieldType.int) ∈ qA := qa (List.mem_of_getElem? (i := 516) (by decide +kernel)) rfl
theorem q_474 : Cond.methodLink RX7 162 yX0_trueQuantileAt ∈ qA := qa (List.mem_of_getElem? (i := 517) (by decide +kernel)) rfl
theorem q_475 : Cond.instanceMethod yX0_trueQuantileAt ∈ qA := qa (List.mem_of_getElem? (i := 518) (by decide +kernel)) rfl
theorem q_476 : Cond.selects RX0 yX0_trueQuantileAt yX0_trueQuantileAt ∈ qA := qa (List.mem_of_getElem? (i := 519) (by decide +kernel)) rfl
theorem q_477 : Cond.code yX0_trueQuantileAt cX0_trueQuantileAt 2 (some FieldType.int) ∈ qA := qa (List.mem_of_getElem? (i := 520) (by decide +kernel)) rfl
theorem q_478 : Cond.methodLinkNest RX0 68 yX7_trueIndex RX7 ∈ lw_tbl := List.mem_of_getElem? (i := 521) (by decide +kernel)
theorem q_479 : Cond.static yX7_trueIndex ∈ qA := qa (List.mem_of_getElem? (i := 522) (by decide +kernel)) rfl
theorem q_480 : Cond.code yX7_trueIndex cX7_trueIndex 2 (some FieldType.int) ∈ qA := qa (List.mem_of_getElem? (i := 523) (by decide +kernel)) rfl
theorem q_481 : Cond.methodLink RL 56 yX7_worst ∈ qA := qa (List.mem_of_getElem? (i := 524) (by decide +kernel)) rfl
theorem q_482 : Cond.instanceMethod yX7_worst ∈ qA := qa (List.mem_of_getElem? (i := 525) (by decide +kernel)) rfl
theorem q_483 : Cond.selects RX7 yX7_worst yX7_worst ∈ qA := qa (List.mem_of_getElem? (i := 526) (by decide +kernel)) rfl
theorem q_484 : Cond.code yX7_worst cX7_worst 8 (some FieldType.int) ∈ qA := qa (List.mem_of_getElem? (i := 527) (by decide +kernel)) rfl
theorem q_485 : Cond.methodLink RX7 165 Lib.Math.abs.name ∈ qA := qa (List.mem_of_getElem? (i := 528) (by decide +kernel)) rfl
theorem q_486 : Cond.static Lib.Math.abs.name ∈ qA := qa (List.mem_of_getElem? (i := 529) (by decide +kernel)) rfl
theorem q_487 : Cond.code Lib.Math.abs.name Lib.Math.abs.code 1 (some FieldType.int) ∈ qA := qa (List.mem_of_getElem? (i := 530) (by decide +kernel)) rfl
theorem q_488 : Cond.methodLink RL 60 yX7_rank ∈ qA := qa (List.mem_of_getElem? (i := 531) (by decide +kernel)) rfl
theorem q_489 : Cond.instanceMethod yX7_rank ∈ qA := qa (List.mem_of_getElem? (i := 532) (by decide +kernel)) rfl
theorem q_490 : Cond.selects RX7 yX7_rank yX7_rank ∈ qA := qa (List.mem_of_getElem? (i := 533) (by decide +kernel)) rfl
theorem q_491 : Cond.code yX7_rank cX7_rank 4 (some FieldType.int) ∈ qA := qa (List.mem_of_getElem? (i := 534) (by decide +kernel)) rfl
theorem q_492 : Cond.methodLink RX7 170 yX1_greatestQAtMost ∈ qA := qa (List.mem_of_getElem? (i := 535) (by decide +kernel)) rfl
theorem q_493 : Cond.instanceMethod yX1_greatestQAtMost ∈ qA := qa (List.mem_of_getElem? (i := 536) (by decide +kernel)) rfl
theorem q_494 : Cond.selects RX1 yX1_greatestQAtMost yX1_greatestQAtMost ∈ qA := qa (List.mem_of_getElem? (i := 537) (by decide +kernel)) rfl
theorem q_495 : Cond.code yX1_greatestQAtMost cX1_greatestQAtMost 4 (some FieldType.int) ∈ qA := qa (List.mem_of_getElem? (i := 538) (by decide +kernel)) rfl
theorem q_496 : Cond.methodLink RX1 108 yX1_quantileAt ∈ qA := qa (List.mem_of_getElem? (i := 539) (by decide +kernel)) rfl
theorem q_497 : Cond.methodLink RL 64 yX7_width ∈ qA := qa (List.mem_of_getElem? (i := 540) (by decide +kernel)) rfl
theorem q_498 : Cond.instanceMethod yX7_width ∈ qA := qa (List.mem_of_getElem? (i := 541) (by decide +kernel)) rfl
theorem q_499 : Cond.selects RX7 yX7_width yX7_width ∈ qA := qa (List.mem_of_getElem? (i := 542) (by decide +kernel)) rfl
theorem q_500 : Cond.code yX7_width cX7_width 4 (some FieldType.int) ∈ qA := qa (List.mem_of_getElem? (i := 543) (by decide +kernel)) rfl
theorem q_501 : Cond.methodLink RX7 173 yX7_trueIndex ∈ qA := qa (List.mem_of_getElem? (i := 544) (by decide +kernel)) rfl
theorem q_502 : Cond.methodLink RX7 177 yX1_widthAt ∈ qA := qa (List.mem_of_getElem? (i := 545) (by decide +kernel)) rfl
theorem q_503 : Cond.instanceMethod yX1_widthAt ∈ qA := qa (List.mem_of_getElem? (i := 546) (by decide +kernel)) rfl
theorem q_504 : Cond.selects RX1 yX1_widthAt yX1_widthAt ∈ qA := qa (List.mem_of_getElem? (i := 547) (by decide +kernel)) rfl
theorem q_505 : Cond.code yX1_widthAt cX1_widthAt 4 (some FieldType.int) ∈ qA := qa (List.mem_of_getElem? (i := 548) (by decide +kernel)) rfl
theorem q_506 : Cond.methodLink RL 68 yX7_settingFor ∈ qA := qa (List.mem_of_getElem? (i := 549) (by decide +kernel)) rfl
theorem q_507 : Cond.instanceMethod yX7_settingFor ∈ qA := qa (List.mem_of_getElem? (i := 550) (by decide +kernel)) rfl
theorem q_508 : Cond.selects RX7 yX7_settingFor yX7_settingFor ∈ qA := qa (List.mem_of_getElem? (i := 551) (by decide +kernel)) rfl
theorem q_509 : Cond.code yX7_settingFor cX7_settingFor 5 (some FieldType.int) ∈ qA := qa (List.mem_of_getElem? (i := 552) (by decide +kernel)) rfl
theorem q_510 : Cond.methodLink RX7 180 yX1_empty ∈ qA := qa (List.mem_of_getElem? (i := 553) (by decide +kernel)) rfl
theorem q_511 : Cond.methodLink RL 72 yX7_count ∈ qA := qa (List.mem_of_getElem? (i := 554) (by decide +kernel)) rfl
theorem q_512 : Cond.instanceMethod yX7_count ∈ qA := qa (List.mem_of_getElem? (i := 555) (by decide +kernel)) rfl
theorem q_513 : Cond.selects RX7 yX7_count yX7_count ∈ qA := qa (List.mem_of_getElem? (i := 556) (by decide +kernel)) rfl
theorem q_514 : Cond.code yX7_count cX7_count 2 (some FieldType.int) ∈ qA := qa (List.mem_of_getElem? (i := 557) (by decide +kernel)) rfl
theorem q_515 : Cond.methodLink RX7 189 yX5_weight ∈ qA := qa (List.mem_of_getElem? (i := 558) (by decide +kernel)) rfl
theorem q_516 : Cond.instanceMethod yX5_weight ∈ qA := qa (List.mem_of_getElem? (i := 559) (by decide +kernel)) rfl
theorem q_517 : Cond.selects RX5 yX5_weight yX5_weight ∈ qA := qa (List.mem_of_getElem? (i := 560) (by decide +kernel)) rfl
theorem q_518 : Cond.code yX5_weight cX5_weight 1 (some FieldType.int) ∈ qA := qa (List.mem_of_getElem? (i := 561) (by decide +kernel)) rfl
theorem q_519 : Cond.methodLink RX5 36 yX0_weight ∈ qA := qa (List.mem_of_getElem? (i := 562) (by decide +kernel)) rfl
theorem q_520 : Cond.methodLink RX7 190 yX5_heapCount ∈ qA := qa (List.mem_of_getElem? (i := 563) (by decide +kernel)) rfl
theorem q_521 : Cond.instanceMethod yX5_heapCount ∈ qA := qa (List.mem_of_getElem? (i := 564) (by decide +kernel)) rfl
theorem q_522 : Cond.selects RX5 yX5_heapCount yX5_heapCount ∈ qA := qa (List.mem_of_getElem? (i := 565) (by decide +kernel)) rfl
theorem q_523 : Cond.code yX5_heapCount cX5_heapCount 1 (some FieldType.int) ∈ qA := qa (List.mem_of_getElem? (i := 566) (by decide +kernel)) rfl
theorem q_524 : Cond.methodLink RX5 44 yX1_size ∈ qA := qa (List.mem_of_getElem? (i := 567) (by decide +kernel)) rfl
theorem q_525 : Cond.methodLink RX7 193 yX2_size ∈ qA := qa (List.mem_of_getElem? (i := 568) (by decide +kernel)) rfl
theorem q_526 : Cond.instanceMethod yX2_size ∈ qA := qa (List.mem_of_getElem? (i := 569) (by decide +kernel)) rfl
theorem q_527 : Cond.selects RX2 yX2_size yX2_size ∈ qA := qa (List.mem_of_getElem? (i := 570) (by decide +kernel)) rfl
theorem q_528 : Cond.code yX2_size cX2_size 1 (some FieldType.int) ∈ qA := qa (List.mem_of_getElem? (i := 571) (by decide +kernel)) rfl
theorem q_529 : Cond.methodLink RL 76 yX7_undo ∈ qA := qa (List.mem_of_getElem? (i := 572) (by decide +kernel)) rfl
theorem q_530 : Cond.instanceMethod yX7_undo ∈ qA := qa (List.mem_of_getElem? (i := 573) (by decide +kernel)) rfl
theorem q_531 : Cond.selects RX7 yX7_undo yX7_undo ∈ qA := qa (List.mem_of_getElem? (i := 574) (by decide +kernel)) rfl
theorem q_532 : Cond.code yX7_undo cX7_undo 1 (some FieldType.int) ∈ qA := qa (List.mem_of_getElem? (i := 575) (by decide +kernel)) rfl
theorem q_533 : Cond.methodLink RX7 194 yX2_restoreLatest ∈ qA := qa (List.mem_of_getElem? (i := 576) (by decide +kernel)) rfl
theorem q_534 : Cond.instanceMethod yX2_restoreLatest ∈ qA := qa (List.mem_of_getElem? (i := 577) (by decide +kernel)) rfl
theorem q_535 : Cond.selects RX2 yX2_restoreLatest yX2_restoreLatest ∈ qA := qa (List.mem_of_getElem? (i := 578) (by decide +kernel)) rfl
theorem q_536 : Cond.code yX2_restoreLatest cX2_restoreLatest 3 none ∈ qA := qa (List.mem_of_getElem? (i := 579) (by decide +kernel)) rfl
theorem q_537 : Cond.methodLink RL 81 yX7_type ∈ qA := qa (List.mem_of_getElem? (i := 580) (by decide +kernel)) rfl
theorem q_538 : Cond.instanceMethod yX7_type ∈ qA := qa (List.mem_of_getElem? (i := 581) (by decide +kernel)) rfl
theorem q_539 : Cond.selects RX7 yX7_type yX7_type ∈ qA := qa (List.mem_of_getElem? (i := 582) (by decide +kernel)) rfl
theorem q_540 : Cond.code yX7_type cX7_type 2 (some FieldType.int) ∈ qA := qa (List.mem_of_getElem? (i := 583) (by decide +kernel)) rfl
theorem q_541 : Cond.methodLink RX7 197 yX4_append ∈ qA := qa (List.mem_of_getElem? (i := 584) (by decide +kernel)) rfl
theorem q_542 : Cond.methodLink RL 85 yX7_clearText ∈ qA := qa (List.mem_of_getElem? (i := 585) (by decide +kernel)) rfl
theorem q_543 : Cond.instanceMethod yX7_clearText ∈ qA := qa (List.mem_of_getElem? (i := 586) (by decide +kernel)) rfl
theorem q_544 : Cond.selects RX7 yX7_clearText yX7_clearText ∈ qA := qa (List.mem_of_getElem? (i := 587) (by decide +kernel)) rfl
theorem q_545 : Cond.code yX7_clearText cX7_clearText 2 (some FieldType.int) ∈ qA := qa (List.mem_of_getElem? (i := 588) (by decide +kernel)) rfl
theorem q_546 : Cond.methodLink RX7 200 yX4_empty ∈ qA := qa (List.mem_of_getElem? (i := 589) (by decide +kernel)) rfl
theorem q_547 : Cond.methodLink RL 89 yX7_fault ∈ qA := qa (List.mem_of_getElem? (i := 590) (by decide +kernel)) rfl
theorem q_548 : Cond.instanceMethod yX7_fault ∈ qA := qa (List.mem_of_getElem? (i := 591) (by decide +kernel)) rfl
theorem q_549 : Cond.selects RX7 yX7_fault yX7_fault ∈ qA := qa (List.mem_of_getElem? (i := 592) (by decide +kernel)) rfl
theorem q_550 : Cond.code yX7_fault cX7_fault 2 (some FieldType.int) ∈ qA := qa (List.mem_of_getElem? (i := 593) (by decide +kernel)) rfl
theorem q_551 : Cond.methodLink RX7 201 yX6_find ∈ qA := qa (List.mem_of_getElem? (i := 594) (by decide +kernel)) rfl
theorem q_552 : Cond.instanceMethod yX6_find ∈ qA := qa (List.mem_of_getElem? (i := 595) (by decide +kernel)) rfl
theorem q_553 : Cond.selects RX6 yX6_find yX6_find ∈ qA := qa (List.mem_of_getElem? (i := 596) (by decide +kernel)) rfl
theorem q_554 : Cond.code yX6_find cX6_find 6 none ∈ qA := qa (List.mem_of_getElem? (i := 597) (by decide +kernel)) rfl
theorem q_555 : Cond.methodLink RX6 30 yX6_startWeights ∈ qA := qa (List.mem_of_getElem? (i := 598) (by decide +kernel)) rfl
theorem q_557 : Cond.instanceMethod yX6_startWeights ∈ qA := qa (List.mem_of_getElem? (i := 600) (by decide +kernel)) rfl
theorem q_558 : Cond.code yX6_startWeights cX6_startWeights 4 none ∈ qA := qa (List.mem_of_getElem? (i := 601) (by decide +kernel)) rfl
theorem q_559 : Cond.methodLink RX6 47 yX4_empty ∈ qA := qa (List.mem_of_getElem? (i := 602) (by decide +kernel)) rfl
theorem q_560 : Cond.methodLink RX6 50 yX5_digestAt ∈ qA := qa (List.mem_of_getElem? (i := 603) (by decide +kernel)) rfl
theorem q_561 : Cond.methodLink RX6 56 yX0_weight ∈ qA := qa (List.mem_of_getElem? (i := 604) (by decide +kernel)) rfl
theorem q_562 : Cond.methodLink RX6 61 yX4_append ∈ qA := qa (List.mem_of_getElem? (i := 605) (by decide +kernel)) rfl
theorem q_563 : Cond.methodLink RX6 34 yX4_length ∈ qA := qa (List.mem_of_getElem? (i := 606) (by decide +kernel)) rfl
theorem q_564 : Cond.methodLink RX6 38 yX6_reasonOf ∈ qA := qa (List.mem_of_getElem? (i := 607) (by decide +kernel)) rfl
theorem q_566 : Cond.instanceMethod yX6_reasonOf ∈ qA := qa (List.mem_of_getElem? (i := 609) (by decide +kernel)) rfl
theorem q_567 : Cond.code yX6_reasonOf cX6_reasonOf 5 (some FieldType.int) ∈ qA := qa (List.mem_of_getElem? (i := 610) (by decide +kernel)) rfl
theorem q_568 : Cond.methodLink RX6 64 yX3_readFrom ∈ qA := qa (List.mem_of_getElem? (i := 611) (by decide +kernel)) rfl
theorem q_569 : Cond.instanceMethod yX3_readFrom ∈ qA := qa (List.mem_of_getElem? (i := 612) (by decide +kernel)) rfl
theorem q_570 : Cond.selects RX3 yX3_readFrom yX3_readFrom ∈ qA := qa (List.mem_of_getElem? (i := 613) (by decide +kernel)) rfl
theorem q_571 : Cond.code yX3_readFrom cX3_readFrom 5 (some FieldType.boolean) ∈ qA := qa (List.mem_of_getElem? (i := 614) (by decide +kernel)) rfl
theorem q_572 : Cond.methodLink RX3 27 yX4_empty ∈ qA := qa (List.mem_of_getElem? (i := 615) (by decide +kernel)) rfl
theorem q_573 : Cond.methodLink RX3 30 yX3_digitAt ∈ qA := qa (List.mem_of_getElem? (i := 616) (by decide +kernel)) rfl
theorem q_574 : Cond.static yX3_digitAt ∈ qA := qa (List.mem_of_getElem? (i := 617) (by decide +kernel)) rfl
theorem q_575 : Cond.code yX3_digitAt cX3_digitAt 3 (some FieldType.int) ∈ qA := qa (List.mem_of_getElem? (i := 618) (by decide +kernel)) rfl
theorem q_576 : Cond.methodLink RX3 34 yX4_at ∈ qA := qa (List.mem_of_getElem? (i := 619) (by decide +kernel)) rfl
theorem q_577 : Cond.methodLink RX3 38 yX3_readValue ∈ qA := qa (List.mem_of_getElem? (i := 620) (by decide +kernel)) rfl
theorem q_579 : Cond.instanceMethod yX3_readValue ∈ qA := qa (List.mem_of_getElem? (i := 622) (by decide +kernel)) rfl
theorem q_580 : Cond.code yX3_readValue cX3_readValue 4 (some FieldType.boolean) ∈ qA := qa (List.mem_of_getElem? (i := 623) (by decide +kernel)) rfl
theorem q_581 : Cond.methodLink RX3 46 yX4_append ∈ qA := qa (List.mem_of_getElem? (i := 624) (by decide +kernel)) rfl
theorem q_582 : Cond.methodLink RX3 42 yX4_length ∈ qA := qa (List.mem_of_getElem? (i := 625) (by decide +kernel)) rfl
theorem q_583 : Cond.methodLink RX6 71 yX4_at ∈ qA := qa (List.mem_of_getElem? (i := 626) (by decide +kernel)) rfl
theorem q_584 : Cond.methodLink RX6 78 yX4_put ∈ qA := qa (List.mem_of_getElem? (i := 627) (by decide +kernel)) rfl
theorem q_585 : Cond.methodLink RL 93 yX7_play ∈ qA := qa (List.mem_of_getElem? (i := 628) (by decide +kernel)) rfl
theorem q_586 : Cond.instanceMethod yX7_play ∈ qA := qa (List.mem_of_getElem? (i := 629) (by decide +kernel)) rfl
theorem q_587 : Cond.selects RX7 yX7_play yX7_play ∈ qA := qa (List.mem_of_getElem? (i := 630) (by decide +kernel)) rfl
theorem q_588 : Cond.code yX7_play cX7_play 5 (some FieldType.int) ∈ qA := qa (List.mem_of_getElem? (i := 631) (by decide +kernel)) rfl
theorem q_589 : Cond.methodLink RX7 214 yX3_readFrom ∈ qA := qa (List.mem_of_getElem? (i := 632) (by decide +kernel)) rfl
theorem q_590 : Cond.classLink RL 10 RX8 ∈ qA := qa (List.mem_of_getElem? (i := 633) (by decide +kernel)) rfl
theorem q_591 : Cond.instantiable RX8 15 ∈ qA := qa (List.mem_of_getElem? (i := 634) (by decide +kernel)) rfl
theorem q_592 : Cond.methodLink RL 12 yX8_init ∈ qA := qa (List.mem_of_getElem? (i := 635) (by decide +kernel)) rfl
theorem q_593 : Cond.instanceMethod yX8_init ∈ qA := qa (List.mem_of_getElem? (i := 636) (by decide +kernel)) rfl
theorem q_594 : Cond.code yX8_init cX8_init 1 none ∈ qA := qa (List.mem_of_getElem? (i := 637) (by decide +kernel)) rfl
theorem q_595 : Cond.methodLink RX8 1 objectInit ∈ qA := qa (List.mem_of_getElem? (i := 638) (by decide +kernel)) rfl
theorem q_596 : Cond.fieldLink RX8 7 "QuantileDigestsModel" "state" "[I" ∈ qA := qa (List.mem_of_getElem? (i := 639) (by decide +kernel)) rfl
theorem q_597 : Cond.fieldLink RX8 13 "QuantileDigestsModel" "history" "[I" ∈ qA := qa (List.mem_of_getElem? (i := 640) (by decide +kernel)) rfl
theorem q_598 : Cond.fieldLink RX8 37 "QuantileDigestsModel" "recorded" "I" ∈ qA := qa (List.mem_of_getElem? (i := 641) (by decide +kernel)) rfl
theorem q_599 : Cond.fieldLink RX8 16 "QuantileDigestsModel" "text" "[I" ∈ qA := qa (List.mem_of_getElem? (i := 642) (by decide +kernel)) rfl
theorem q_600 : Cond.fieldLink RX8 156 "QuantileDigestsModel" "textLength" "I" ∈ qA := qa (List.mem_of_getElem? (i := 643) (by decide +kernel)) rfl
theorem q_601 : Cond.fieldLink RX8 19 "QuantileDigestsModel" "weights" "[I" ∈ qA := qa (List.mem_of_getElem? (i := 644) (by decide +kernel)) rfl
theorem q_602 : Cond.fieldLink RX8 22 "QuantileDigestsModel" "sums" "[I" ∈ qA := qa (List.mem_of_getElem? (i := 645) (by decide +kernel)) rfl
theorem q_603 : Cond.fieldLink RX8 25 "QuantileDigestsModel" "leasts" "[I" ∈ qA := qa (List.mem_of_getElem? (i := 646) (by decide +kernel)) rfl
theorem q_604 : Cond.fieldLink RX8 28 "QuantileDigestsModel" "greatests" "[I" ∈ qA := qa (List.mem_of_getElem? (i := 647) (by decide +kernel)) rfl
theorem q_605 : Cond.fieldLink RX8 53 "QuantileDigestsModel" "many" "I" ∈ qA := qa (List.mem_of_getElem? (i := 648) (by decide +kernel)) rfl
theorem q_606 : Cond.fieldLink RX8 31 "QuantileDigestsModel" "ordered" "[I" ∈ qA := qa (List.mem_of_getElem? (i := 649) (by decide +kernel)) rfl
theorem q_607 : Cond.fieldLink RX8 159 "QuantileDigestsModel" "at" "I" ∈ qA := qa (List.mem_of_getElem? (i := 650) (by decide +kernel)) rfl
theorem q_608 : Cond.fieldLink RX8 178 "QuantileDigestsModel" "reason" "I" ∈ qA := qa (List.mem_of_getElem? (i := 651) (by decide +kernel)) rfl
theorem q_609 : Cond.fieldLink RX8 175 "QuantileDigestsModel" "cause" "I" ∈ qA := qa (List.mem_of_getElem? (i := 652) (by decide +kernel)) rfl
theorem q_610 : Cond.fieldLink RX8 34 "QuantileDigestsModel" "would" "[I" ∈ qA := qa (List.mem_of_getElem? (i := 653) (by decide +kernel)) rfl
theorem q_642 : Cond.methodLink RL 17 yX8_add ∈ qA := qa (List.mem_of_getElem? (i := 685) (by decide +kernel)) rfl
theorem q_643 : Cond.instanceMethod yX8_add ∈ qA := qa (List.mem_of_getElem? (i := 686) (by decide +kernel)) rfl
theorem q_644 : Cond.selects RX8 yX8_add yX8_add ∈ qA := qa (List.mem_of_getElem? (i := 687) (by decide +kernel)) rfl
theorem q_645 : Cond.code yX8_add cX8_add 5 (some FieldType.int) ∈ qA := qa (List.mem_of_getElem? (i := 688) (by decide +kernel)) rfl
theorem q_646 : Cond.methodLink RX8 97 yX8_isDigest ∈ qA := qa (List.mem_of_getElem? (i := 689) (by decide +kernel)) rfl
theorem q_647 : Cond.static yX8_isDigest ∈ qA := qa (List.mem_of_getElem? (i := 690) (by decide +kernel)) rfl
theorem q_648 : Cond.code yX8_isDigest cX8_isDigest 1 (some FieldType.boolean) ∈ qA := qa (List.mem_of_getElem? (i := 691) (by decide +kernel)) rfl
theorem q_649 : Cond.methodLink RX8 45 yX8_within ∈ qA := qa (List.mem_of_getElem? (i := 692) (by decide +kernel)) rfl
theorem q_650 : Cond.static yX8_within ∈ qA := qa (List.mem_of_getElem? (i := 693) (by decide +kernel)) rfl
theorem q_651 : Cond.code yX8_within cX8_within 3 (some FieldType.boolean) ∈ qA := qa (List.mem_of_getElem? (i := 694) (by decide +kernel)) rfl
theorem q_652 : Cond.constant RX8 101 (-1000001 : Int32) ∈ qA := qa (List.mem_of_getElem? (i := 695) (by decide +kernel)) rfl
theorem q_653 : Cond.methodLink RX8 102 yX8_weightOf ∈ qA := qa (List.mem_of_getElem? (i := 696) (by decide +kernel)) rfl
theorem q_655 : Cond.instanceMethod yX8_weightOf ∈ qA := qa (List.mem_of_getElem? (i := 698) (by decide +kernel)) rfl
theorem q_656 : Cond.code yX8_weightOf cX8_weightOf 2 (some FieldType.int) ∈ qA := qa (List.mem_of_getElem? (i := 699) (by decide +kernel)) rfl
theorem q_657 : Cond.methodLink RX8 49 yX8_part ∈ qA := qa (List.mem_of_getElem? (i := 700) (by decide +kernel)) rfl
theorem q_659 : Cond.instanceMethod yX8_part ∈ qA := qa (List.mem_of_getElem? (i := 702) (by decide +kernel)) rfl
theorem q_660 : Cond.code yX8_part cX8_part 3 (some FieldType.int) ∈ qA := qa (List.mem_of_getElem? (i := 703) (by decide +kernel)) rfl
theorem q_661 : Cond.constant RX8 106 (-1000003 : Int32) ∈ qA := qa (List.mem_of_getElem? (i := 704) (by decide +kernel)) rfl
theorem q_662 : Cond.methodLink RX8 107 yX8_record ∈ qA := qa (List.mem_of_getElem? (i := 705) (by decide +kernel)) rfl
theorem q_664 : Cond.instanceMethod yX8_record ∈ qA := qa (List.mem_of_getElem? (i := 707) (by decide +kernel)) rfl
theorem q_665 : Cond.code yX8_record cX8_record 2 none ∈ qA := qa (List.mem_of_getElem? (i := 708) (by decide +kernel)) rfl
theorem q_666 : Cond.methodLink RX8 41 yX8_moves ∈ qA := qa (List.mem_of_getElem? (i := 709) (by decide +kernel)) rfl
theorem q_667 : Cond.static yX8_moves ∈ qA := qa (List.mem_of_getElem? (i := 710) (by decide +kernel)) rfl
theorem q_668 : Cond.code yX8_moves cX8_moves 5 none ∈ qA := qa (List.mem_of_getElem? (i := 711) (by decide +kernel)) rfl
theorem q_669 : Cond.methodLink RX8 110 yX8_comes ∈ qA := qa (List.mem_of_getElem? (i := 712) (by decide +kernel)) rfl
theorem q_671 : Cond.instanceMethod yX8_comes ∈ qA := qa (List.mem_of_getElem? (i := 714) (by decide +kernel)) rfl
theorem q_672 : Cond.code yX8_comes cX8_comes 3 none ∈ qA := qa (List.mem_of_getElem? (i := 715) (by decide +kernel)) rfl
theorem q_673 : Cond.methodLink RX8 91 yX8_packs ∈ qA := qa (List.mem_of_getElem? (i := 716) (by decide +kernel)) rfl
theorem q_675 : Cond.instanceMethod yX8_packs ∈ qA := qa (List.mem_of_getElem? (i := 718) (by decide +kernel)) rfl
theorem q_676 : Cond.code yX8_packs cX8_packs 2 none ∈ qA := qa (List.mem_of_getElem? (i := 719) (by decide +kernel)) rfl
theorem q_677 : Cond.methodLink RX8 85 yX8_findPacked ∈ qA := qa (List.mem_of_getElem? (i := 720) (by decide +kernel)) rfl
theorem q_679 : Cond.instanceMethod yX8_findPacked ∈ qA := qa (List.mem_of_getElem? (i := 722) (by decide +kernel)) rfl
theorem q_680 : Cond.code yX8_findPacked cX8_findPacked 2 none ∈ qA := qa (List.mem_of_getElem? (i := 723) (by decide +kernel)) rfl
theorem q_681 : Cond.methodLink RX8 68 yX8_takeHeaps ∈ qA := qa (List.mem_of_getElem? (i := 724) (by decide +kernel)) rfl
theorem q_683 : Cond.instanceMethod yX8_takeHeaps ∈ qA := qa (List.mem_of_getElem? (i := 726) (by decide +kernel)) rfl
theorem q_684 : Cond.code yX8_takeHeaps cX8_takeHeaps 3 none ∈ qA := qa (List.mem_of_getElem? (i := 727) (by decide +kernel)) rfl
theorem q_685 : Cond.methodLink RX8 56 yX8_heapPart ∈ qA := qa (List.mem_of_getElem? (i := 728) (by decide +kernel)) rfl
theorem q_687 : Cond.instanceMethod yX8_heapPart ∈ qA := qa (List.mem_of_getElem? (i := 730) (by decide +kernel)) rfl
theorem q_688 : Cond.code yX8_heapPart cX8_heapPart 4 (some FieldType.int) ∈ qA := qa (List.mem_of_getElem? (i := 731) (by decide +kernel)) rfl
theorem q_689 : Cond.methodLink RX8 60 yX8_takeHeap ∈ qA := qa (List.mem_of_getElem? (i := 732) (by decide +kernel)) rfl
theorem q_691 : Cond.instanceMethod yX8_takeHeap ∈ qA := qa (List.mem_of_getElem? (i := 734) (by decide +kernel)) rfl
theorem q_692 : Cond.code yX8_takeHeap cX8_takeHeap 5 none ∈ qA := qa (List.mem_of_getElem? (i := 735) (by decide +kernel)) rfl
theorem q_693 : Cond.methodLink RX8 72 yX8_takeBuffer ∈ qA := qa (List.mem_of_getElem? (i := 736) (by decide +kernel)) rfl
theorem q_695 : Cond.instanceMethod yX8_takeBuffer ∈ qA := qa (List.mem_of_getElem? (i := 738) (by decide +kernel)) rfl
theorem q_696 : Cond.code yX8_takeBuffer cX8_takeBuffer 4 none ∈ qA := qa (List.mem_of_getElem? (i := 739) (by decide +kernel)) rfl
theorem q_697 : Cond.methodLink RX8 75 yX8_putInOrder ∈ qA := qa (List.mem_of_getElem? (i := 740) (by decide +kernel)) rfl
theorem q_699 : Cond.instanceMethod yX8_putInOrder ∈ qA := qa (List.mem_of_getElem? (i := 742) (by decide +kernel)) rfl
theorem q_700 : Cond.code yX8_putInOrder cX8_putInOrder 3 none ∈ qA := qa (List.mem_of_getElem? (i := 743) (by decide +kernel)) rfl
theorem q_701 : Cond.methodLink RX8 64 yX8_copyHeap ∈ qA := qa (List.mem_of_getElem? (i := 744) (by decide +kernel)) rfl
theorem q_703 : Cond.instanceMethod yX8_copyHeap ∈ qA := qa (List.mem_of_getElem? (i := 746) (by decide +kernel)) rfl
theorem q_704 : Cond.code yX8_copyHeap cX8_copyHeap 3 none ∈ qA := qa (List.mem_of_getElem? (i := 747) (by decide +kernel)) rfl
theorem q_705 : Cond.methodLink RX8 78 yX8_putTogether ∈ qA := qa (List.mem_of_getElem? (i := 748) (by decide +kernel)) rfl
theorem q_707 : Cond.instanceMethod yX8_putTogether ∈ qA := qa (List.mem_of_getElem? (i := 750) (by decide +kernel)) rfl
theorem q_708 : Cond.code yX8_putTogether cX8_putTogether 7 none ∈ qA := qa (List.mem_of_getElem? (i := 751) (by decide +kernel)) rfl
theorem q_709 : Cond.methodLink RX8 88 yX8_giveHeaps ∈ qA := qa (List.mem_of_getElem? (i := 752) (by decide +kernel)) rfl
theorem q_711 : Cond.instanceMethod yX8_giveHeaps ∈ qA := qa (List.mem_of_getElem? (i := 754) (by decide +kernel)) rfl
theorem q_712 : Cond.code yX8_giveHeaps cX8_giveHeaps 3 none ∈ qA := qa (List.mem_of_getElem? (i := 755) (by decide +kernel)) rfl
theorem q_713 : Cond.methodLink RX8 81 yX8_setPart ∈ qA := qa (List.mem_of_getElem? (i := 756) (by decide +kernel)) rfl
theorem q_715 : Cond.instanceMethod yX8_setPart ∈ qA := qa (List.mem_of_getElem? (i := 758) (by decide +kernel)) rfl
theorem q_716 : Cond.code yX8_setPart cX8_setPart 4 none ∈ qA := qa (List.mem_of_getElem? (i := 759) (by decide +kernel)) rfl
theorem q_717 : Cond.methodLink RX8 94 yX8_knows ∈ qA := qa (List.mem_of_getElem? (i := 760) (by decide +kernel)) rfl
theorem q_719 : Cond.instanceMethod yX8_knows ∈ qA := qa (List.mem_of_getElem? (i := 762) (by decide +kernel)) rfl
theorem q_720 : Cond.code yX8_knows cX8_knows 3 none ∈ qA := qa (List.mem_of_getElem? (i := 763) (by decide +kernel)) rfl
theorem q_721 : Cond.methodLink RL 22 yX8_pack ∈ qA := qa (List.mem_of_getElem? (i := 764) (by decide +kernel)) rfl
theorem q_722 : Cond.instanceMethod yX8_pack ∈ qA := qa (List.mem_of_getElem? (i := 765) (by decide +kernel)) rfl
theorem q_723 : Cond.selects RX8 yX8_pack yX8_pack ∈ qA := qa (List.mem_of_getElem? (i := 766) (by decide +kernel)) rfl
theorem q_724 : Cond.code yX8_pack cX8_pack 2 (some FieldType.int) ∈ qA := qa (List.mem_of_getElem? (i := 767) (by decide +kernel)) rfl
theorem q_725 : Cond.methodLink RL 27 yX8_join ∈ qA := qa (List.mem_of_getElem? (i := 768) (by decide +kernel)) rfl
theorem q_726 : Cond.instanceMethod yX8_join ∈ qA := qa (List.mem_of_getElem? (i := 769) (by decide +kernel)) rfl
theorem q_727 : Cond.selects RX8 yX8_join yX8_join ∈ qA := qa (List.mem_of_getElem? (i := 770) (by decide +kernel)) rfl
theorem q_728 : Cond.code yX8_join cX8_join 4 (some FieldType.int) ∈ qA := qa (List.mem_of_getElem? (i := 771) (by decide +kernel)) rfl
theorem q_729 : Cond.methodLink RL 31 yX8_clear ∈ qA := qa (List.mem_of_getElem? (i := 772) (by decide +kernel)) rfl
theorem q_730 : Cond.instanceMethod yX8_clear ∈ qA := qa (List.mem_of_getElem? (i := 773) (by decide +kernel)) rfl
theorem q_731 : Cond.selects RX8 yX8_clear yX8_clear ∈ qA := qa (List.mem_of_getElem? (i := 774) (by decide +kernel)) rfl
theorem q_732 : Cond.code yX8_clear cX8_clear 3 (some FieldType.int) ∈ qA := qa (List.mem_of_getElem? (i := 775) (by decide +kernel)) rfl
theorem q_733 : Cond.methodLink RL 35 yX8_set ∈ qA := qa (List.mem_of_getElem? (i := 776) (by decide +kernel)) rfl
theorem q_734 : Cond.instanceMethod yX8_set ∈ qA := qa (List.mem_of_getElem? (i := 777) (by decide +kernel)) rfl
theorem q_735 : Cond.selects RX8 yX8_set yX8_set ∈ qA := qa (List.mem_of_getElem? (i := 778) (by decide +kernel)) rfl
theorem q_736 : Cond.code yX8_set cX8_set 4 (some FieldType.int) ∈ qA := qa (List.mem_of_getElem? (i := 779) (by decide +kernel)) rfl
theorem q_737 : Cond.methodLink RL 39 yX8_heapOf ∈ qA := qa (List.mem_of_getElem? (i := 780) (by decide +kernel)) rfl
theorem q_738 : Cond.instanceMethod yX8_heapOf ∈ qA := qa (List.mem_of_getElem? (i := 781) (by decide +kernel)) rfl
theorem q_739 : Cond.selects RX8 yX8_heapOf yX8_heapOf ∈ qA := qa (List.mem_of_getElem? (i := 782) (by decide +kernel)) rfl
theorem q_740 : Cond.code yX8_heapOf cX8_heapOf 6 (some FieldType.int) ∈ qA := qa (List.mem_of_getElem? (i := 783) (by decide +kernel)) rfl
theorem q_741 : Cond.constant RX8 116 (-1000004 : Int32) ∈ qA := qa (List.mem_of_getElem? (i := 784) (by decide +kernel)) rfl
theorem q_742 : Cond.methodLink RX8 117 yX8_aheadOf ∈ qA := qa (List.mem_of_getElem? (i := 785) (by decide +kernel)) rfl
theorem q_744 : Cond.instanceMethod yX8_aheadOf ∈ qA := qa (List.mem_of_getElem? (i := 787) (by decide +kernel)) rfl
theorem q_745 : Cond.code yX8_aheadOf cX8_aheadOf 5 (some FieldType.int) ∈ qA := qa (List.mem_of_getElem? (i := 788) (by decide +kernel)) rfl
theorem q_746 : Cond.methodLink RX8 120 yX8_floatBits ∈ qA := qa (List.mem_of_getElem? (i := 789) (by decide +kernel)) rfl
theorem q_747 : Cond.static yX8_floatBits ∈ qA := qa (List.mem_of_getElem? (i := 790) (by decide +kernel)) rfl
theorem q_748 : Cond.code yX8_floatBits cX8_floatBits 9 (some FieldType.int) ∈ qA := qa (List.mem_of_getElem? (i := 791) (by decide +kernel)) rfl
theorem q_749 : Cond.constantLong RX8 113 (2 : Int64) ∈ qA := qa (List.mem_of_getElem? (i := 792) (by decide +kernel)) rfl
theorem q_750 : Cond.constant RX8 115 (8388608 : Int32) ∈ qA := qa (List.mem_of_getElem? (i := 793) (by decide +kernel)) rfl
theorem q_751 : Cond.methodLink RL 43 yX8_bufferOf ∈ qA := qa (List.mem_of_getElem? (i := 794) (by decide +kernel)) rfl
theorem q_752 : Cond.instanceMethod yX8_bufferOf ∈ qA := qa (List.mem_of_getElem? (i := 795) (by decide +kernel)) rfl
theorem q_753 : Cond.selects RX8 yX8_bufferOf yX8_bufferOf ∈ qA := qa (List.mem_of_getElem? (i := 796) (by decide +kernel)) rfl
theorem q_754 : Cond.code yX8_bufferOf cX8_bufferOf 3 (some FieldType.int) ∈ qA := qa (List.mem_of_getElem? (i := 797) (by decide +kernel)) rfl
theorem q_755 : Cond.methodLink RL 47 yX8_digestOf ∈ qA := qa (List.mem_of_getElem? (i := 798) (by decide +kernel)) rfl
theorem q_756 : Cond.instanceMethod yX8_digestOf ∈ qA := qa (List.mem_of_getElem? (i := 799) (by decide +kernel)) rfl
theorem q_757 : Cond.selects RX8 yX8_digestOf yX8_digestOf ∈ qA := qa (List.mem_of_getElem? (i := 800) (by decide +kernel)) rfl
theorem q_758 : Cond.code yX8_digestOf cX8_digestOf 4 (some FieldType.int) ∈ qA := qa (List.mem_of_getElem? (i := 801) (by decide +kernel)) rfl
theorem q_759 : Cond.methodLink RX8 123 yX8_putValuesInOrder ∈ qA := qa (List.mem_of_getElem? (i := 802) (by decide +kernel)) rfl
theorem q_761 : Cond.instanceMethod yX8_putValuesInOrder ∈ qA := qa (List.mem_of_getElem? (i := 804) (by decide +kernel)) rfl
theorem q_762 : Cond.code yX8_putValuesInOrder cX8_putValuesInOrder 5 none ∈ qA := qa (List.mem_of_getElem? (i := 805) (by decide +kernel)) rfl
theorem q_763 : Cond.methodLink RX8 126 yX8_sumOf ∈ qA := qa (List.mem_of_getElem? (i := 806) (by decide +kernel)) rfl
theorem q_765 : Cond.instanceMethod yX8_sumOf ∈ qA := qa (List.mem_of_getElem? (i := 808) (by decide +kernel)) rfl
theorem q_766 : Cond.code yX8_sumOf cX8_sumOf 4 (some FieldType.int) ∈ qA := qa (List.mem_of_getElem? (i := 809) (by decide +kernel)) rfl
theorem q_767 : Cond.methodLink RX8 129 yX8_greatestWeight ∈ qA := qa (List.mem_of_getElem? (i := 810) (by decide +kernel)) rfl
theorem q_769 : Cond.instanceMethod yX8_greatestWeight ∈ qA := qa (List.mem_of_getElem? (i := 812) (by decide +kernel)) rfl
theorem q_770 : Cond.code yX8_greatestWeight cX8_greatestWeight 4 (some FieldType.int) ∈ qA := qa (List.mem_of_getElem? (i := 813) (by decide +kernel)) rfl
theorem q_771 : Cond.methodLink RL 51 yX8_quantile ∈ qA := qa (List.mem_of_getElem? (i := 814) (by decide +kernel)) rfl
theorem q_772 : Cond.instanceMethod yX8_quantile ∈ qA := qa (List.mem_of_getElem? (i := 815) (by decide +kernel)) rfl
theorem q_773 : Cond.selects RX8 yX8_quantile yX8_quantile ∈ qA := qa (List.mem_of_getElem? (i := 816) (by decide +kernel)) rfl
theorem q_774 : Cond.code yX8_quantile cX8_quantile 4 (some FieldType.int) ∈ qA := qa (List.mem_of_getElem? (i := 817) (by decide +kernel)) rfl
theorem q_775 : Cond.methodLink RX8 137 yX8_whyNoQuantile ∈ qA := qa (List.mem_of_getElem? (i := 818) (by decide +kernel)) rfl
theorem q_777 : Cond.instanceMethod yX8_whyNoQuantile ∈ qA := qa (List.mem_of_getElem? (i := 820) (by decide +kernel)) rfl
theorem q_778 : Cond.code yX8_whyNoQuantile cX8_whyNoQuantile 4 (some FieldType.int) ∈ qA := qa (List.mem_of_getElem? (i := 821) (by decide +kernel)) rfl
theorem q_779 : Cond.constant RX8 136 (-1000002 : Int32) ∈ qA := qa (List.mem_of_getElem? (i := 822) (by decide +kernel)) rfl
theorem q_780 : Cond.methodLink RX8 140 yX8_findAll ∈ qA := qa (List.mem_of_getElem? (i := 823) (by decide +kernel)) rfl
theorem q_782 : Cond.instanceMethod yX8_findAll ∈ qA := qa (List.mem_of_getElem? (i := 825) (by decide +kernel)) rfl
theorem q_783 : Cond.code yX8_findAll cX8_findAll 2 none ∈ qA := qa (List.mem_of_getElem? (i := 826) (by decide +kernel)) rfl
theorem q_784 : Cond.methodLink RX8 143 yX8_quantileBy ∈ qA := qa (List.mem_of_getElem? (i := 827) (by decide +kernel)) rfl
theorem q_786 : Cond.instanceMethod yX8_quantileBy ∈ qA := qa (List.mem_of_getElem? (i := 829) (by decide +kernel)) rfl
theorem q_787 : Cond.code yX8_quantileBy cX8_quantileBy 20 (some FieldType.int) ∈ qA := qa (List.mem_of_getElem? (i := 830) (by decide +kernel)) rfl
theorem q_788 : Cond.constantLong RX8 132 (1000 : Int64) ∈ qA := qa (List.mem_of_getElem? (i := 831) (by decide +kernel)) rfl
theorem q_789 : Cond.constantLong RX8 134 (2000 : Int64) ∈ qA := qa (List.mem_of_getElem? (i := 832) (by decide +kernel)) rfl
theorem q_790 : Cond.methodLink RL 55 yX8_truth ∈ qA := qa (List.mem_of_getElem? (i := 833) (by decide +kernel)) rfl
theorem q_791 : Cond.instanceMethod yX8_truth ∈ qA := qa (List.mem_of_getElem? (i := 834) (by decide +kernel)) rfl
theorem q_792 : Cond.selects RX8 yX8_truth yX8_truth ∈ qA := qa (List.mem_of_getElem? (i := 835) (by decide +kernel)) rfl
theorem q_793 : Cond.code yX8_truth cX8_truth 4 (some FieldType.int) ∈ qA := qa (List.mem_of_getElem? (i := 836) (by decide +kernel)) rfl
theorem q_794 : Cond.methodLink RX8 146 yX8_truthBy ∈ qA := qa (List.mem_of_getElem? (i := 837) (by decide +kernel)) rfl
theorem q_796 : Cond.instanceMethod yX8_truthBy ∈ qA := qa (List.mem_of_getElem? (i := 839) (by decide +kernel)) rfl
theorem q_797 : Cond.code yX8_truthBy cX8_truthBy 3 (some FieldType.int) ∈ qA := qa (List.mem_of_getElem? (i := 840) (by decide +kernel)) rfl
theorem q_798 : Cond.methodLink RL 59 yX8_worst ∈ qA := qa (List.mem_of_getElem? (i := 841) (by decide +kernel)) rfl
theorem q_799 : Cond.instanceMethod yX8_worst ∈ qA := qa (List.mem_of_getElem? (i := 842) (by decide +kernel)) rfl
theorem q_800 : Cond.selects RX8 yX8_worst yX8_worst ∈ qA := qa (List.mem_of_getElem? (i := 843) (by decide +kernel)) rfl
theorem q_801 : Cond.code yX8_worst cX8_worst 9 (some FieldType.int) ∈ qA := qa (List.mem_of_getElem? (i := 844) (by decide +kernel)) rfl
theorem q_802 : Cond.methodLink RL 63 yX8_rank ∈ qA := qa (List.mem_of_getElem? (i := 845) (by decide +kernel)) rfl
theorem q_803 : Cond.instanceMethod yX8_rank ∈ qA := qa (List.mem_of_getElem? (i := 846) (by decide +kernel)) rfl
theorem q_804 : Cond.selects RX8 yX8_rank yX8_rank ∈ qA := qa (List.mem_of_getElem? (i := 847) (by decide +kernel)) rfl
theorem q_805 : Cond.code yX8_rank cX8_rank 5 (some FieldType.int) ∈ qA := qa (List.mem_of_getElem? (i := 848) (by decide +kernel)) rfl
theorem q_806 : Cond.methodLink RL 67 yX8_width ∈ qA := qa (List.mem_of_getElem? (i := 849) (by decide +kernel)) rfl
theorem q_807 : Cond.instanceMethod yX8_width ∈ qA := qa (List.mem_of_getElem? (i := 850) (by decide +kernel)) rfl
theorem q_808 : Cond.selects RX8 yX8_width yX8_width ∈ qA := qa (List.mem_of_getElem? (i := 851) (by decide +kernel)) rfl
theorem q_809 : Cond.code yX8_width cX8_width 7 (some FieldType.int) ∈ qA := qa (List.mem_of_getElem? (i := 852) (by decide +kernel)) rfl
theorem q_810 : Cond.methodLink RL 71 yX8_settingFor ∈ qA := qa (List.mem_of_getElem? (i := 853) (by decide +kernel)) rfl
theorem q_811 : Cond.instanceMethod yX8_settingFor ∈ qA := qa (List.mem_of_getElem? (i := 854) (by decide +kernel)) rfl
theorem q_812 : Cond.selects RX8 yX8_settingFor yX8_settingFor ∈ qA := qa (List.mem_of_getElem? (i := 855) (by decide +kernel)) rfl
theorem q_813 : Cond.code yX8_settingFor cX8_settingFor 4 (some FieldType.int) ∈ qA := qa (List.mem_of_getElem? (i := 856) (by decide +kernel)) rfl
theorem q_814 : Cond.methodLink RX8 149 yX8_heapsBy ∈ qA := qa (List.mem_of_getElem? (i := 857) (by decide +kernel)) rfl
theorem q_816 : Cond.instanceMethod yX8_heapsBy ∈ qA := qa (List.mem_of_getElem? (i := 859) (by decide +kernel)) rfl
theorem q_817 : Cond.code yX8_heapsBy cX8_heapsBy 4 (some FieldType.int) ∈ qA := qa (List.mem_of_getElem? (i := 860) (by decide +kernel)) rfl
theorem q_818 : Cond.methodLink RL 75 yX8_count ∈ qA := qa (List.mem_of_getElem? (i := 861) (by decide +kernel)) rfl
theorem q_819 : Cond.instanceMethod yX8_count ∈ qA := qa (List.mem_of_getElem? (i := 862) (by decide +kernel)) rfl
theorem q_820 : Cond.selects RX8 yX8_count yX8_count ∈ qA := qa (List.mem_of_getElem? (i := 863) (by decide +kernel)) rfl
theorem q_821 : Cond.code yX8_count cX8_count 2 (some FieldType.int) ∈ qA := qa (List.mem_of_getElem? (i := 864) (by decide +kernel)) rfl
theorem q_822 : Cond.methodLink RX8 152 yX8_allWeight ∈ qA := qa (List.mem_of_getElem? (i := 865) (by decide +kernel)) rfl
theorem q_824 : Cond.instanceMethod yX8_allWeight ∈ qA := qa (List.mem_of_getElem? (i := 867) (by decide +kernel)) rfl
theorem q_825 : Cond.code yX8_allWeight cX8_allWeight 1 (some FieldType.int) ∈ qA := qa (List.mem_of_getElem? (i := 868) (by decide +kernel)) rfl
theorem q_826 : Cond.methodLink RL 80 yX8_undo ∈ qA := qa (List.mem_of_getElem? (i := 869) (by decide +kernel)) rfl
theorem q_827 : Cond.instanceMethod yX8_undo ∈ qA := qa (List.mem_of_getElem? (i := 870) (by decide +kernel)) rfl
theorem q_828 : Cond.selects RX8 yX8_undo yX8_undo ∈ qA := qa (List.mem_of_getElem? (i := 871) (by decide +kernel)) rfl
theorem q_829 : Cond.code yX8_undo cX8_undo 1 (some FieldType.int) ∈ qA := qa (List.mem_of_getElem? (i := 872) (by decide +kernel)) rfl
theorem q_830 : Cond.methodLink RL 84 yX8_type ∈ qA := qa (List.mem_of_getElem? (i := 873) (by decide +kernel)) rfl
theorem q_831 : Cond.instanceMethod yX8_type ∈ qA := qa (List.mem_of_getElem? (i := 874) (by decide +kernel)) rfl
theorem q_832 : Cond.selects RX8 yX8_type yX8_type ∈ qA := qa (List.mem_of_getElem? (i := 875) (by decide +kernel)) rfl
theorem q_833 : Cond.code yX8_type cX8_type 2 (some FieldType.int) ∈ qA := qa (List.mem_of_getElem? (i := 876) (by decide +kernel)) rfl
theorem q_834 : Cond.methodLink RL 88 yX8_clearText ∈ qA := qa (List.mem_of_getElem? (i := 877) (by decide +kernel)) rfl
theorem q_835 : Cond.instanceMethod yX8_clearText ∈ qA := qa (List.mem_of_getElem? (i := 878) (by decide +kernel)) rfl
theorem q_836 : Cond.selects RX8 yX8_clearText yX8_clearText ∈ qA := qa (List.mem_of_getElem? (i := 879) (by decide +kernel)) rfl
theorem q_837 : Cond.code yX8_clearText cX8_clearText 2 (some FieldType.int) ∈ qA := qa (List.mem_of_getElem? (i := 880) (by decide +kernel)) rfl
theorem q_838 : Cond.methodLink RL 92 yX8_fault ∈ qA := qa (List.mem_of_getElem? (i := 881) (by decide +kernel)) rfl
theorem q_839 : Cond.instanceMethod yX8_fault ∈ qA := qa (List.mem_of_getElem? (i := 882) (by decide +kernel)) rfl
theorem q_840 : Cond.selects RX8 yX8_fault yX8_fault ∈ qA := qa (List.mem_of_getElem? (i := 883) (by decide +kernel)) rfl
theorem q_841 : Cond.code yX8_fault cX8_fault 3 (some FieldType.int) ∈ qA := qa (List.mem_of_getElem? (i := 884) (by decide +kernel)) rfl
theorem q_842 : Cond.methodLink RX8 181 yX8_findFault ∈ qA := qa (List.mem_of_getElem? (i := 885) (by decide +kernel)) rfl
theorem q_844 : Cond.instanceMethod yX8_findFault ∈ qA := qa (List.mem_of_getElem? (i := 887) (by decide +kernel)) rfl
theorem q_845 : Cond.code yX8_findFault cX8_findFault 3 (some FieldType.int) ∈ qA := qa (List.mem_of_getElem? (i := 888) (by decide +kernel)) rfl
theorem q_846 : Cond.methodLink RX8 171 yX8_readsPart ∈ qA := qa (List.mem_of_getElem? (i := 889) (by decide +kernel)) rfl
theorem q_848 : Cond.instanceMethod yX8_readsPart ∈ qA := qa (List.mem_of_getElem? (i := 891) (by decide +kernel)) rfl
theorem q_849 : Cond.code yX8_readsPart cX8_readsPart 6 (some FieldType.int) ∈ qA := qa (List.mem_of_getElem? (i := 892) (by decide +kernel)) rfl
theorem q_850 : Cond.methodLink RX8 165 yX8_takeNumber ∈ qA := qa (List.mem_of_getElem? (i := 893) (by decide +kernel)) rfl
theorem q_852 : Cond.instanceMethod yX8_takeNumber ∈ qA := qa (List.mem_of_getElem? (i := 895) (by decide +kernel)) rfl
theorem q_853 : Cond.code yX8_takeNumber cX8_takeNumber 4 (some FieldType.int) ∈ qA := qa (List.mem_of_getElem? (i := 896) (by decide +kernel)) rfl
theorem q_854 : Cond.methodLink RX8 162 yX8_character ∈ qA := qa (List.mem_of_getElem? (i := 897) (by decide +kernel)) rfl
theorem q_856 : Cond.instanceMethod yX8_character ∈ qA := qa (List.mem_of_getElem? (i := 899) (by decide +kernel)) rfl
theorem q_857 : Cond.code yX8_character cX8_character 2 (some FieldType.int) ∈ qA := qa (List.mem_of_getElem? (i := 900) (by decide +kernel)) rfl
theorem q_858 : Cond.methodLink RX8 168 yX8_takes ∈ qA := qa (List.mem_of_getElem? (i := 901) (by decide +kernel)) rfl
theorem q_860 : Cond.instanceMethod yX8_takes ∈ qA := qa (List.mem_of_getElem? (i := 903) (by decide +kernel)) rfl
theorem q_861 : Cond.code yX8_takes cX8_takes 3 (some FieldType.boolean) ∈ qA := qa (List.mem_of_getElem? (i := 904) (by decide +kernel)) rfl
theorem q_862 : Cond.methodLink RL 96 yX8_play ∈ qA := qa (List.mem_of_getElem? (i := 905) (by decide +kernel)) rfl
theorem q_863 : Cond.instanceMethod yX8_play ∈ qA := qa (List.mem_of_getElem? (i := 906) (by decide +kernel)) rfl
theorem q_864 : Cond.selects RX8 yX8_play yX8_play ∈ qA := qa (List.mem_of_getElem? (i := 907) (by decide +kernel)) rfl
theorem q_865 : Cond.code yX8_play cX8_play 1 (some FieldType.int) ∈ qA := qa (List.mem_of_getElem? (i := 908) (by decide +kernel)) rfl
theorem qs_0 : Cond.selects RX2 yX2_dropOldest yX2_dropOldest ∈ qA := qa (List.mem_of_getElem? (i := 0) (by decide +kernel)) rfl
theorem qs_1 : Cond.selects RX2 yX2_stateAt yX2_stateAt ∈ qA := qa (List.mem_of_getElem? (i := 1) (by decide +kernel)) rfl
theorem qs_2 : Cond.selects RX1 yX1_order yX1_order ∈ qA := qa (List.mem_of_getElem? (i := 2) (by decide +kernel)) rfl
theorem qs_3 : Cond.selects RX1 yX1_isMiddleAbove yX1_isMiddleAbove ∈ qA := qa (List.mem_of_getElem? (i := 3) (by decide +kernel)) rfl
theorem qs_4 : Cond.selects RX1 yX1_exchange yX1_exchange ∈ qA := qa (List.mem_of_getElem? (i := 4) (by decide +kernel)) rfl
theorem qs_5 : Cond.selects RX1 yX1_putTogether yX1_putTogether ∈ qA := qa (List.mem_of_getElem? (i := 5) (by decide +kernel)) rfl
theorem qs_6 : Cond.selects RX1 yX1_unite yX1_unite ∈ qA := qa (List.mem_of_getElem? (i := 6) (by decide +kernel)) rfl
theorem qs_7 : Cond.selects RX1 yX1_shortenTo yX1_shortenTo ∈ qA := qa (List.mem_of_getElem? (i := 7) (by decide +kernel)) rfl
theorem qs_8 : Cond.selects RX7 yX7_packOnTrial yX7_packOnTrial ∈ qA := qa (List.mem_of_getElem? (i := 8) (by decide +kernel)) rfl
theorem qs_9 : Cond.selects RX6 yX6_startWeights yX6_startWeights ∈ qA := qa (List.mem_of_getElem? (i := 9) (by decide +kernel)) rfl
theorem qs_10 : Cond.selects RX6 yX6_reasonOf yX6_reasonOf ∈ qA := qa (List.mem_of_getElem? (i := 10) (by decide +kernel)) rfl
theorem qs_11 : Cond.selects RX3 yX3_readValue yX3_readValue ∈ qA := qa (List.mem_of_getElem? (i := 11) (by decide +kernel)) rfl
theorem qs_12 : Cond.selects RX8 yX8_weightOf yX8_weightOf ∈ qA := qa (List.mem_of_getElem? (i := 12) (by decide +kernel)) rfl
theorem qs_13 : Cond.selects RX8 yX8_part yX8_part ∈ qA := qa (List.mem_of_getElem? (i := 13) (by decide +kernel)) rfl
theorem qs_14 : Cond.selects RX8 yX8_record yX8_record ∈ qA := qa (List.mem_of_getElem? (i := 14) (by decide +kernel)) rfl
theorem qs_15 : Cond.selects RX8 yX8_comes yX8_comes ∈ qA := qa (List.mem_of_getElem? (i := 15) (by decide +kernel)) rfl
theorem qs_16 : Cond.selects RX8 yX8_packs yX8_packs ∈ qA := qa (List.mem_of_getElem? (i := 16) (by decide +kernel)) rfl
theorem qs_17 : Cond.selects RX8 yX8_findPacked yX8_findPacked ∈ qA := qa (List.mem_of_getElem? (i := 17) (by decide +kernel)) rfl
theorem qs_18 : Cond.selects RX8 yX8_takeHeaps yX8_takeHeaps ∈ qA := qa (List.mem_of_getElem? (i := 18) (by decide +kernel)) rfl
theorem qs_19 : Cond.selects RX8 yX8_heapPart yX8_heapPart ∈ qA := qa (List.mem_of_getElem? (i := 19) (by decide +kernel)) rfl
theorem qs_20 : Cond.selects RX8 yX8_takeHeap yX8_takeHeap ∈ qA := qa (List.mem_of_getElem? (i := 20) (by decide +kernel)) rfl
theorem qs_21 : Cond.selects RX8 yX8_takeBuffer yX8_takeBuffer ∈ qA := qa (List.mem_of_getElem? (i := 21) (by decide +kernel)) rfl
theorem qs_22 : Cond.selects RX8 yX8_putInOrder yX8_putInOrder ∈ qA := qa (List.mem_of_getElem? (i := 22) (by decide +kernel)) rfl
theorem qs_23 : Cond.selects RX8 yX8_copyHeap yX8_copyHeap ∈ qA := qa (List.mem_of_getElem? (i := 23) (by decide +kernel)) rfl
theorem qs_24 : Cond.selects RX8 yX8_putTogether yX8_putTogether ∈ qA := qa (List.mem_of_getElem? (i := 24) (by decide +kernel)) rfl
theorem qs_25 : Cond.selects RX8 yX8_giveHeaps yX8_giveHeaps ∈ qA := qa (List.mem_of_getElem? (i := 25) (by decide +kernel)) rfl
theorem qs_26 : Cond.selects RX8 yX8_setPart yX8_setPart ∈ qA := qa (List.mem_of_getElem? (i := 26) (by decide +kernel)) rfl
theorem qs_27 : Cond.selects RX8 yX8_knows yX8_knows ∈ qA := qa (List.mem_of_getElem? (i := 27) (by decide +kernel)) rfl
theorem qs_28 : Cond.selects RX8 yX8_aheadOf yX8_aheadOf ∈ qA := qa (List.mem_of_getElem? (i := 28) (by decide +kernel)) rfl
theorem qs_29 : Cond.selects RX8 yX8_putValuesInOrder yX8_putValuesInOrder ∈ qA := qa (List.mem_of_getElem? (i := 29) (by decide +kernel)) rfl
theorem qs_30 : Cond.selects RX8 yX8_sumOf yX8_sumOf ∈ qA := qa (List.mem_of_getElem? (i := 30) (by decide +kernel)) rfl
theorem qs_31 : Cond.selects RX8 yX8_greatestWeight yX8_greatestWeight ∈ qA := qa (List.mem_of_getElem? (i := 31) (by decide +kernel)) rfl
theorem qs_32 : Cond.selects RX8 yX8_whyNoQuantile yX8_whyNoQuantile ∈ qA := qa (List.mem_of_getElem? (i := 32) (by decide +kernel)) rfl
theorem qs_33 : Cond.selects RX8 yX8_findAll yX8_findAll ∈ qA := qa (List.mem_of_getElem? (i := 33) (by decide +kernel)) rfl
theorem qs_34 : Cond.selects RX8 yX8_quantileBy yX8_quantileBy ∈ qA := qa (List.mem_of_getElem? (i := 34) (by decide +kernel)) rfl
theorem qs_35 : Cond.selects RX8 yX8_truthBy yX8_truthBy ∈ qA := qa (List.mem_of_getElem? (i := 35) (by decide +kernel)) rfl
theorem qs_36 : Cond.selects RX8 yX8_heapsBy yX8_heapsBy ∈ qA := qa (List.mem_of_getElem? (i := 36) (by decide +kernel)) rfl
theorem qs_37 : Cond.selects RX8 yX8_allWeight yX8_allWeight ∈ qA := qa (List.mem_of_getElem? (i := 37) (by decide +kernel)) rfl
theorem qs_38 : Cond.selects RX8 yX8_findFault yX8_findFault ∈ qA := qa (List.mem_of_getElem? (i := 38) (by decide +kernel)) rfl
theorem qs_39 : Cond.selects RX8 yX8_readsPart yX8_readsPart ∈ qA := qa (List.mem_of_getElem? (i := 39) (by decide +kernel)) rfl
theorem qs_40 : Cond.selects RX8 yX8_takeNumber yX8_takeNumber ∈ qA := qa (List.mem_of_getElem? (i := 40) (by decide +kernel)) rfl
theorem qs_41 : Cond.selects RX8 yX8_character yX8_character ∈ qA := qa (List.mem_of_getElem? (i := 41) (by decide +kernel)) rfl
theorem qs_42 : Cond.selects RX8 yX8_takes yX8_takes ∈ qA := qa (List.mem_of_getElem? (i := 42) (by decide +kernel)) rfl
theorem i_wsX00 : ∀ w ∈ wsX00, w ∈ qA := fun w h => qa ((show ∀ w ∈ wsX00, w ∈ lw_tbl from by decide +kernel) w h) ((show ∀ w ∈ wsX00, goodWord w = true from by decide +kernel) w h)
theorem i_wsX10 : ∀ w ∈ wsX10, w ∈ qA := fun w h => qa ((show ∀ w ∈ wsX10, w ∈ lw_tbl from by decide +kernel) w h) ((show ∀ w ∈ wsX10, goodWord w = true from by decide +kernel) w h)
theorem i_wsX20 : ∀ w ∈ wsX20, w ∈ qA := fun w h => qa ((show ∀ w ∈ wsX20, w ∈ lw_tbl from by decide +kernel) w h) ((show ∀ w ∈ wsX20, goodWord w = true from by decide +kernel) w h)
theorem i_wsX30 : ∀ w ∈ wsX30, w ∈ qA := fun w h => qa ((show ∀ w ∈ wsX30, w ∈ lw_tbl from by decide +kernel) w h) ((show ∀ w ∈ wsX30, goodWord w = true from by decide +kernel) w h)
theorem i_wsX40 : ∀ w ∈ wsX40, w ∈ qA := fun w h => qa ((show ∀ w ∈ wsX40, w ∈ lw_tbl from by decide +kernel) w h) ((show ∀ w ∈ wsX40, goodWord w = true from by decide +kernel) w h)
theorem i_wsX50 : ∀ w ∈ wsX50, w ∈ qA := fun w h => qa ((show ∀ w ∈ wsX50, w ∈ lw_tbl from by decide +kernel) w h) ((show ∀ w ∈ wsX50, goodWord w = true from by decide +kernel) w h)
theorem i_wsX60 : ∀ w ∈ wsX60, w ∈ qA := fun w h => qa ((show ∀ w ∈ wsX60, w ∈ lw_tbl from by decide +kernel) w h) ((show ∀ w ∈ wsX60, goodWord w = true from by decide +kernel) w h)
theorem i_wsX70 : ∀ w ∈ wsX70, w ∈ qA := fun w h => qa ((show ∀ w ∈ wsX70, w ∈ lw_tbl from by decide +kernel) w h) ((show ∀ w ∈ wsX70, goodWord w = true from by decide +kernel) w h)
theorem i_wsX80 : ∀ w ∈ wsX80, w ∈ qA := fun w h => qa ((show ∀ w ∈ wsX80, w ∈ lw_tbl from by decide +kernel) w h) ((show ∀ w ∈ wsX80, goodWord w = true from by decide +kernel) w h)
end
section
theorem dX0_init_0 : decode cX0_init 0 = .ok (.aload_n 0, 1) := by decide +kernel
theorem dX0_init_1 : decode cX0_init 1 = .ok (.invokespecial 3, 3) := by decide +kernel
theorem dX0_init_4 : decode cX0_init 4 = .ok (.aload_n 0, 1) := by decide +kernel
theorem dX0_init_5 : decode cX0_init 5 = .ok (.new 9, 3) := by decide +kernel
theorem dX0_init_8 : decode cX0_init 8 = .ok (.dup, 1) := by decide +kernel
theorem dX0_init_9 : decode cX0_init 9 = .ok (.invokespecial 11, 3) := by decide +kernel
theorem dX0_init_12 : decode cX0_init 12 = .ok (.putfield 12, 3) := by decide +kernel
theorem dX0_init_15 : decode cX0_init 15 = .ok (.aload_n 0, 1) := by decide +kernel
theorem dX0_init_16 : decode cX0_init 16 = .ok (.new 18, 3) := by decide +kernel
theorem dX0_init_19 : decode cX0_init 19 = .ok (.dup, 1) := by decide +kernel
theorem dX0_init_20 : decode cX0_init 20 = .ok (.bipush 20, 2) := by decide +kernel
theorem dX0_init_22 : decode cX0_init 22 = .ok (.invokespecial 20, 3) := by decide +kernel
theorem dX0_init_25 : decode cX0_init 25 = .ok (.putfield 23, 3) := by decide +kernel
theorem dX0_init_28 : decode cX0_init 28 = .ok (.aload_n 0, 1) := by decide +kernel
theorem dX0_init_29 : decode cX0_init 29 = .ok (.new 18, 3) := by decide +kernel
theorem dX0_init_32 : decode cX0_init 32 = .ok (.dup, 1) := by decide +kernel
theorem dX0_init_33 : decode cX0_init 33 = .ok (.sipush 200, 3) := by decide +kernel
theorem dX0_init_36 : decode cX0_init 36 = .ok (.invokespecial 20, 3) := by decide +kernel
theorem dX0_init_39 : decode cX0_init 39 = .ok (.putfield 27, 3) := by decide +kernel
theorem dX0_init_42 : decode cX0_init 42 = .ok (.aload_n 0, 1) := by decide +kernel
theorem dX0_init_43 : decode cX0_init 43 = .ok (.iconst 0, 1) := by decide +kernel
theorem dX0_init_44 : decode cX0_init 44 = .ok (.putfield 30, 3) := by decide +kernel
theorem dX0_init_47 : decode cX0_init 47 = .ok (.return_, 1) := by decide +kernel
theorem dX0_weight_0 : decode cX0_weight 0 = .ok (.aload_n 0, 1) := by decide +kernel
theorem dX0_weight_1 : decode cX0_weight 1 = .ok (.getfield 12, 3) := by decide +kernel
theorem dX0_weight_4 : decode cX0_weight 4 = .ok (.getfield 34, 3) := by decide +kernel
theorem dX0_weight_7 : decode cX0_weight 7 = .ok (.invokevirtual 37, 3) := by decide +kernel
theorem dX0_weight_10 : decode cX0_weight 10 = .ok (.aload_n 0, 1) := by decide +kernel
theorem dX0_weight_11 : decode cX0_weight 11 = .ok (.getfield 23, 3) := by decide +kernel
theorem dX0_weight_14 : decode cX0_weight 14 = .ok (.invokevirtual 41, 3) := by decide +kernel
theorem dX0_weight_17 : decode cX0_weight 17 = .ok (.iadd, 1) := by decide +kernel
theorem dX0_weight_18 : decode cX0_weight 18 = .ok (.ireturn, 1) := by decide +kernel
theorem dX0_sum_0 : decode cX0_sum 0 = .ok (.aload_n 0, 1) := by decide +kernel
theorem dX0_sum_1 : decode cX0_sum 1 = .ok (.getfield 12, 3) := by decide +kernel
theorem dX0_sum_4 : decode cX0_sum 4 = .ok (.getfield 44, 3) := by decide +kernel
theorem dX0_sum_7 : decode cX0_sum 7 = .ok (.invokevirtual 37, 3) := by decide +kernel
theorem dX0_sum_10 : decode cX0_sum 10 = .ok (.aload_n 0, 1) := by decide +kernel
theorem dX0_sum_11 : decode cX0_sum 11 = .ok (.getfield 23, 3) := by decide +kernel
theorem dX0_sum_14 : decode cX0_sum 14 = .ok (.invokevirtual 37, 3) := by decide +kernel
theorem dX0_sum_17 : decode cX0_sum 17 = .ok (.iadd, 1) := by decide +kernel
theorem dX0_sum_18 : decode cX0_sum 18 = .ok (.ireturn, 1) := by decide +kernel
theorem dX0_least_0 : decode cX0_least 0 = .ok (.aload_n 0, 1) := by decide +kernel
theorem dX0_least_1 : decode cX0_least 1 = .ok (.getfield 12, 3) := by decide +kernel
theorem dX0_least_4 : decode cX0_least 4 = .ok (.getfield 47, 3) := by decide +kernel
theorem dX0_least_7 : decode cX0_least 7 = .ok (.invokevirtual 50, 3) := by decide +kernel
theorem dX0_least_10 : decode cX0_least 10 = .ok (.aload_n 0, 1) := by decide +kernel
theorem dX0_least_11 : decode cX0_least 11 = .ok (.getfield 23, 3) := by decide +kernel
theorem dX0_least_14 : decode cX0_least 14 = .ok (.invokevirtual 50, 3) := by decide +kernel
theorem dX0_least_17 : decode cX0_least 17 = .ok (.invokestatic 53, 3) := by decide +kernel
theorem dX0_least_20 : decode cX0_least 20 = .ok (.ireturn, 1) := by decide +kernel
theorem dX0_greatest_0 : decode cX0_greatest 0 = .ok (.aload_n 0, 1) := by decide +kernel
theorem dX0_greatest_1 : decode cX0_greatest 1 = .ok (.getfield 12, 3) := by decide +kernel
theorem dX0_greatest_4 : decode cX0_greatest 4 = .ok (.getfield 59, 3) := by decide +kernel
theorem dX0_greatest_7 : decode cX0_greatest 7 = .ok (.invokevirtual 62, 3) := by decide +kernel
theorem dX0_greatest_10 : decode cX0_greatest 10 = .ok (.aload_n 0, 1) := by decide +kernel
theorem dX0_greatest_11 : decode cX0_greatest 11 = .ok (.getfield 23, 3) := by decide +kernel
theorem dX0_greatest_14 : decode cX0_greatest 14 = .ok (.invokevirtual 62, 3) := by decide +kernel
theorem dX0_greatest_17 : decode cX0_greatest 17 = .ok (.invokestatic 65, 3) := by decide +kernel
theorem dX0_greatest_20 : decode cX0_greatest 20 = .ok (.ireturn, 1) := by decide +kernel
theorem dX0_trueQuantileAt_0 : decode cX0_trueQuantileAt 0 = .ok (.aload_n 0, 1) := by decide +kernel
theorem dX0_trueQuantileAt_1 : decode cX0_trueQuantileAt 1 = .ok (.getfield 27, 3) := by decide +kernel
theorem dX0_trueQuantileAt_4 : decode cX0_trueQuantileAt 4 = .ok (.iload_n 1, 1) := by decide +kernel
theorem dX0_trueQuantileAt_5 : decode cX0_trueQuantileAt 5 = .ok (.aload_n 0, 1) := by decide +kernel
theorem dX0_trueQuantileAt_6 : decode cX0_trueQuantileAt 6 = .ok (.getfield 27, 3) := by decide +kernel
theorem dX0_trueQuantileAt_9 : decode cX0_trueQuantileAt 9 = .ok (.invokevirtual 41, 3) := by decide +kernel
theorem dX0_trueQuantileAt_12 : decode cX0_trueQuantileAt 12 = .ok (.invokestatic 68, 3) := by decide +kernel
theorem dX0_trueQuantileAt_15 : decode cX0_trueQuantileAt 15 = .ok (.invokevirtual 71, 3) := by decide +kernel
theorem dX0_trueQuantileAt_18 : decode cX0_trueQuantileAt 18 = .ok (.ireturn, 1) := by decide +kernel
theorem dX0_receive_0 : decode cX0_receive 0 = .ok (.aload_n 0, 1) := by decide +kernel
theorem dX0_receive_1 : decode cX0_receive 1 = .ok (.getfield 23, 3) := by decide +kernel
theorem dX0_receive_4 : decode cX0_receive 4 = .ok (.invokevirtual 41, 3) := by decide +kernel
theorem dX0_receive_7 : decode cX0_receive 7 = .ok (.aload_n 2, 1) := by decide +kernel
theorem dX0_receive_8 : decode cX0_receive 8 = .ok (.iconst 1, 1) := by decide +kernel
theorem dX0_receive_9 : decode cX0_receive 9 = .ok (.invokevirtual 71, 3) := by decide +kernel
theorem dX0_receive_12 : decode cX0_receive 12 = .ok (.if_icmp .lt 12, 3) := by decide +kernel
theorem dX0_receive_15 : decode cX0_receive 15 = .ok (.aload_n 0, 1) := by decide +kernel
theorem dX0_receive_16 : decode cX0_receive 16 = .ok (.aload_n 2, 1) := by decide +kernel
theorem dX0_receive_17 : decode cX0_receive 17 = .ok (.iconst 0, 1) := by decide +kernel
theorem dX0_receive_18 : decode cX0_receive 18 = .ok (.invokevirtual 71, 3) := by decide +kernel
theorem dX0_receive_21 : decode cX0_receive 21 = .ok (.invokevirtual 75, 3) := by decide +kernel
theorem dX0_receive_24 : decode cX0_receive 24 = .ok (.aload_n 0, 1) := by decide +kernel
theorem dX0_receive_25 : decode cX0_receive 25 = .ok (.getfield 23, 3) := by decide +kernel
theorem dX0_receive_28 : decode cX0_receive 28 = .ok (.iload_n 1, 1) := by decide +kernel
theorem dX0_receive_29 : decode cX0_receive 29 = .ok (.invokevirtual 78, 3) := by decide +kernel
theorem dX0_receive_32 : decode cX0_receive 32 = .ok (.aload_n 0, 1) := by decide +kernel
theorem dX0_receive_33 : decode cX0_receive 33 = .ok (.getfield 27, 3) := by decide +kernel
theorem dX0_receive_36 : decode cX0_receive 36 = .ok (.iload_n 1, 1) := by decide +kernel
theorem dX0_receive_37 : decode cX0_receive 37 = .ok (.invokevirtual 81, 3) := by decide +kernel
theorem dX0_receive_40 : decode cX0_receive 40 = .ok (.return_, 1) := by decide +kernel
theorem dX0_packBy_0 : decode cX0_packBy 0 = .ok (.aload_n 0, 1) := by decide +kernel
theorem dX0_packBy_1 : decode cX0_packBy 1 = .ok (.getfield 12, 3) := by decide +kernel
theorem dX0_packBy_4 : decode cX0_packBy 4 = .ok (.aload_n 0, 1) := by decide +kernel
theorem dX0_packBy_5 : decode cX0_packBy 5 = .ok (.getfield 23, 3) := by decide +kernel
theorem dX0_packBy_8 : decode cX0_packBy 8 = .ok (.invokevirtual 84, 3) := by decide +kernel
theorem dX0_packBy_11 : decode cX0_packBy 11 = .ok (.aload_n 0, 1) := by decide +kernel
theorem dX0_packBy_12 : decode cX0_packBy 12 = .ok (.getfield 23, 3) := by decide +kernel
theorem dX0_packBy_15 : decode cX0_packBy 15 = .ok (.invokevirtual 88, 3) := by decide +kernel
theorem dX0_packBy_18 : decode cX0_packBy 18 = .ok (.aload_n 0, 1) := by decide +kernel
theorem dX0_packBy_19 : decode cX0_packBy 19 = .ok (.getfield 12, 3) := by decide +kernel
theorem dX0_packBy_22 : decode cX0_packBy 22 = .ok (.iload_n 1, 1) := by decide +kernel
theorem dX0_packBy_23 : decode cX0_packBy 23 = .ok (.invokevirtual 91, 3) := by decide +kernel
theorem dX0_packBy_26 : decode cX0_packBy 26 = .ok (.aload_n 0, 1) := by decide +kernel
theorem dX0_packBy_27 : decode cX0_packBy 27 = .ok (.dup, 1) := by decide +kernel
theorem dX0_packBy_28 : decode cX0_packBy 28 = .ok (.getfield 30, 3) := by decide +kernel
theorem dX0_packBy_31 : decode cX0_packBy 31 = .ok (.iconst 1, 1) := by decide +kernel
theorem dX0_packBy_32 : decode cX0_packBy 32 = .ok (.iadd, 1) := by decide +kernel
theorem dX0_packBy_33 : decode cX0_packBy 33 = .ok (.putfield 30, 3) := by decide +kernel
theorem dX0_packBy_36 : decode cX0_packBy 36 = .ok (.return_, 1) := by decide +kernel
theorem dX0_takeOver_0 : decode cX0_takeOver 0 = .ok (.aload_n 1, 1) := by decide +kernel
theorem dX0_takeOver_1 : decode cX0_takeOver 1 = .ok (.iload_n 2, 1) := by decide +kernel
theorem dX0_takeOver_2 : decode cX0_takeOver 2 = .ok (.invokevirtual 75, 3) := by decide +kernel
theorem dX0_takeOver_5 : decode cX0_takeOver 5 = .ok (.aload_n 0, 1) := by decide +kernel
theorem dX0_takeOver_6 : decode cX0_takeOver 6 = .ok (.iload_n 2, 1) := by decide +kernel
theorem dX0_takeOver_7 : decode cX0_takeOver 7 = .ok (.invokevirtual 75, 3) := by decide +kernel
theorem dX0_takeOver_10 : decode cX0_takeOver 10 = .ok (.aload_n 0, 1) := by decide +kernel
theorem dX0_takeOver_11 : decode cX0_takeOver 11 = .ok (.getfield 12, 3) := by decide +kernel
theorem dX0_takeOver_14 : decode cX0_takeOver 14 = .ok (.aload_n 1, 1) := by decide +kernel
theorem dX0_takeOver_15 : decode cX0_takeOver 15 = .ok (.getfield 12, 3) := by decide +kernel
theorem dX0_takeOver_18 : decode cX0_takeOver 18 = .ok (.invokevirtual 92, 3) := by decide +kernel
theorem dX0_takeOver_21 : decode cX0_takeOver 21 = .ok (.aload_n 0, 1) := by decide +kernel
theorem dX0_takeOver_22 : decode cX0_takeOver 22 = .ok (.iload_n 2, 1) := by decide +kernel
theorem dX0_takeOver_23 : decode cX0_takeOver 23 = .ok (.invokevirtual 75, 3) := by decide +kernel
theorem dX0_takeOver_26 : decode cX0_takeOver 26 = .ok (.iconst 0, 1) := by decide +kernel
theorem dX0_takeOver_27 : decode cX0_takeOver 27 = .ok (.istore_n 3, 1) := by decide +kernel
theorem dX0_takeOver_28 : decode cX0_takeOver 28 = .ok (.iload_n 3, 1) := by decide +kernel
theorem dX0_takeOver_29 : decode cX0_takeOver 29 = .ok (.aload_n 1, 1) := by decide +kernel
theorem dX0_takeOver_30 : decode cX0_takeOver 30 = .ok (.getfield 27, 3) := by decide +kernel
theorem dX0_takeOver_33 : decode cX0_takeOver 33 = .ok (.invokevirtual 41, 3) := by decide +kernel
theorem dX0_takeOver_36 : decode cX0_takeOver 36 = .ok (.if_icmp .ge 24, 3) := by decide +kernel
theorem dX0_takeOver_39 : decode cX0_takeOver 39 = .ok (.aload_n 0, 1) := by decide +kernel
theorem dX0_takeOver_40 : decode cX0_takeOver 40 = .ok (.getfield 27, 3) := by decide +kernel
theorem dX0_takeOver_43 : decode cX0_takeOver 43 = .ok (.aload_n 1, 1) := by decide +kernel
theorem dX0_takeOver_44 : decode cX0_takeOver 44 = .ok (.getfield 27, 3) := by decide +kernel
theorem dX0_takeOver_47 : decode cX0_takeOver 47 = .ok (.iload_n 3, 1) := by decide +kernel
theorem dX0_takeOver_48 : decode cX0_takeOver 48 = .ok (.invokevirtual 71, 3) := by decide +kernel
theorem dX0_takeOver_51 : decode cX0_takeOver 51 = .ok (.invokevirtual 81, 3) := by decide +kernel
theorem dX0_takeOver_54 : decode cX0_takeOver 54 = .ok (.iinc 3 1, 3) := by decide +kernel
theorem dX0_takeOver_57 : decode cX0_takeOver 57 = .ok (.goto (-29), 3) := by decide +kernel
theorem dX0_takeOver_60 : decode cX0_takeOver 60 = .ok (.return_, 1) := by decide +kernel
theorem dX0_empty_0 : decode cX0_empty 0 = .ok (.aload_n 0, 1) := by decide +kernel
theorem dX0_empty_1 : decode cX0_empty 1 = .ok (.getfield 12, 3) := by decide +kernel
theorem dX0_empty_4 : decode cX0_empty 4 = .ok (.invokevirtual 96, 3) := by decide +kernel
theorem dX0_empty_7 : decode cX0_empty 7 = .ok (.aload_n 0, 1) := by decide +kernel
theorem dX0_empty_8 : decode cX0_empty 8 = .ok (.getfield 23, 3) := by decide +kernel
theorem dX0_empty_11 : decode cX0_empty 11 = .ok (.invokevirtual 88, 3) := by decide +kernel
theorem dX0_empty_14 : decode cX0_empty 14 = .ok (.aload_n 0, 1) := by decide +kernel
theorem dX0_empty_15 : decode cX0_empty 15 = .ok (.getfield 27, 3) := by decide +kernel
theorem dX0_empty_18 : decode cX0_empty 18 = .ok (.invokevirtual 88, 3) := by decide +kernel
theorem dX0_empty_21 : decode cX0_empty 21 = .ok (.return_, 1) := by decide +kernel
theorem dX0_copyFrom_0 : decode cX0_copyFrom 0 = .ok (.aload_n 0, 1) := by decide +kernel
theorem dX0_copyFrom_1 : decode cX0_copyFrom 1 = .ok (.getfield 12, 3) := by decide +kernel
theorem dX0_copyFrom_4 : decode cX0_copyFrom 4 = .ok (.aload_n 1, 1) := by decide +kernel
theorem dX0_copyFrom_5 : decode cX0_copyFrom 5 = .ok (.getfield 12, 3) := by decide +kernel
theorem dX0_copyFrom_8 : decode cX0_copyFrom 8 = .ok (.invokevirtual 97, 3) := by decide +kernel
theorem dX0_copyFrom_11 : decode cX0_copyFrom 11 = .ok (.aload_n 0, 1) := by decide +kernel
theorem dX0_copyFrom_12 : decode cX0_copyFrom 12 = .ok (.getfield 23, 3) := by decide +kernel
theorem dX0_copyFrom_15 : decode cX0_copyFrom 15 = .ok (.aload_n 1, 1) := by decide +kernel
theorem dX0_copyFrom_16 : decode cX0_copyFrom 16 = .ok (.getfield 23, 3) := by decide +kernel
theorem dX0_copyFrom_19 : decode cX0_copyFrom 19 = .ok (.invokevirtual 100, 3) := by decide +kernel
theorem dX0_copyFrom_22 : decode cX0_copyFrom 22 = .ok (.aload_n 0, 1) := by decide +kernel
theorem dX0_copyFrom_23 : decode cX0_copyFrom 23 = .ok (.getfield 27, 3) := by decide +kernel
theorem dX0_copyFrom_26 : decode cX0_copyFrom 26 = .ok (.aload_n 1, 1) := by decide +kernel
theorem dX0_copyFrom_27 : decode cX0_copyFrom 27 = .ok (.getfield 27, 3) := by decide +kernel
theorem dX0_copyFrom_30 : decode cX0_copyFrom 30 = .ok (.invokevirtual 100, 3) := by decide +kernel
theorem dX0_copyFrom_33 : decode cX0_copyFrom 33 = .ok (.aload_n 0, 1) := by decide +kernel
theorem dX0_copyFrom_34 : decode cX0_copyFrom 34 = .ok (.aload_n 1, 1) := by decide +kernel
theorem dX0_copyFrom_35 : decode cX0_copyFrom 35 = .ok (.getfield 30, 3) := by decide +kernel
theorem dX0_copyFrom_38 : decode cX0_copyFrom 38 = .ok (.putfield 30, 3) := by decide +kernel
theorem dX0_copyFrom_41 : decode cX0_copyFrom 41 = .ok (.return_, 1) := by decide +kernel
theorem dX1_init_0 : decode cX1_init 0 = .ok (.aload_n 0, 1) := by decide +kernel
theorem dX1_init_1 : decode cX1_init 1 = .ok (.invokespecial 3, 3) := by decide +kernel
theorem dX1_init_4 : decode cX1_init 4 = .ok (.aload_n 0, 1) := by decide +kernel
theorem dX1_init_5 : decode cX1_init 5 = .ok (.new 9, 3) := by decide +kernel
theorem dX1_init_8 : decode cX1_init 8 = .ok (.dup, 1) := by decide +kernel
theorem dX1_init_9 : decode cX1_init 9 = .ok (.sipush 200, 3) := by decide +kernel
theorem dX1_init_12 : decode cX1_init 12 = .ok (.invokespecial 11, 3) := by decide +kernel
theorem dX1_init_15 : decode cX1_init 15 = .ok (.putfield 14, 3) := by decide +kernel
theorem dX1_init_18 : decode cX1_init 18 = .ok (.aload_n 0, 1) := by decide +kernel
theorem dX1_init_19 : decode cX1_init 19 = .ok (.new 9, 3) := by decide +kernel
theorem dX1_init_22 : decode cX1_init 22 = .ok (.dup, 1) := by decide +kernel
theorem dX1_init_23 : decode cX1_init 23 = .ok (.sipush 200, 3) := by decide +kernel
theorem dX1_init_26 : decode cX1_init 26 = .ok (.invokespecial 11, 3) := by decide +kernel
theorem dX1_init_29 : decode cX1_init 29 = .ok (.putfield 20, 3) := by decide +kernel
theorem dX1_init_32 : decode cX1_init 32 = .ok (.aload_n 0, 1) := by decide +kernel
theorem dX1_init_33 : decode cX1_init 33 = .ok (.new 9, 3) := by decide +kernel
theorem dX1_init_36 : decode cX1_init 36 = .ok (.dup, 1) := by decide +kernel
theorem dX1_init_37 : decode cX1_init 37 = .ok (.sipush 200, 3) := by decide +kernel
theorem dX1_init_40 : decode cX1_init 40 = .ok (.invokespecial 11, 3) := by decide +kernel
theorem dX1_init_43 : decode cX1_init 43 = .ok (.putfield 23, 3) := by decide +kernel
theorem dX1_init_46 : decode cX1_init 46 = .ok (.aload_n 0, 1) := by decide +kernel
theorem dX1_init_47 : decode cX1_init 47 = .ok (.new 9, 3) := by decide +kernel
theorem dX1_init_50 : decode cX1_init 50 = .ok (.dup, 1) := by decide +kernel
theorem dX1_init_51 : decode cX1_init 51 = .ok (.sipush 200, 3) := by decide +kernel
theorem dX1_init_54 : decode cX1_init 54 = .ok (.invokespecial 11, 3) := by decide +kernel
theorem dX1_init_57 : decode cX1_init 57 = .ok (.putfield 26, 3) := by decide +kernel
theorem dX1_init_60 : decode cX1_init 60 = .ok (.return_, 1) := by decide +kernel
theorem dX1_size_0 : decode cX1_size 0 = .ok (.aload_n 0, 1) := by decide +kernel
theorem dX1_size_1 : decode cX1_size 1 = .ok (.getfield 14, 3) := by decide +kernel
theorem dX1_size_4 : decode cX1_size 4 = .ok (.invokevirtual 29, 3) := by decide +kernel
theorem dX1_size_7 : decode cX1_size 7 = .ok (.ireturn, 1) := by decide +kernel
theorem dX1_empty_0 : decode cX1_empty 0 = .ok (.aload_n 0, 1) := by decide +kernel
theorem dX1_empty_1 : decode cX1_empty 1 = .ok (.getfield 14, 3) := by decide +kernel
theorem dX1_empty_4 : decode cX1_empty 4 = .ok (.invokevirtual 33, 3) := by decide +kernel
theorem dX1_empty_7 : decode cX1_empty 7 = .ok (.aload_n 0, 1) := by decide +kernel
theorem dX1_empty_8 : decode cX1_empty 8 = .ok (.getfield 20, 3) := by decide +kernel
theorem dX1_empty_11 : decode cX1_empty 11 = .ok (.invokevirtual 33, 3) := by decide +kernel
theorem dX1_empty_14 : decode cX1_empty 14 = .ok (.aload_n 0, 1) := by decide +kernel
theorem dX1_empty_15 : decode cX1_empty 15 = .ok (.getfield 23, 3) := by decide +kernel
theorem dX1_empty_18 : decode cX1_empty 18 = .ok (.invokevirtual 33, 3) := by decide +kernel
theorem dX1_empty_21 : decode cX1_empty 21 = .ok (.aload_n 0, 1) := by decide +kernel
theorem dX1_empty_22 : decode cX1_empty 22 = .ok (.getfield 26, 3) := by decide +kernel
theorem dX1_empty_25 : decode cX1_empty 25 = .ok (.invokevirtual 33, 3) := by decide +kernel
theorem dX1_empty_28 : decode cX1_empty 28 = .ok (.return_, 1) := by decide +kernel
theorem dX1_copyFrom_0 : decode cX1_copyFrom 0 = .ok (.aload_n 0, 1) := by decide +kernel
theorem dX1_copyFrom_1 : decode cX1_copyFrom 1 = .ok (.getfield 14, 3) := by decide +kernel
theorem dX1_copyFrom_4 : decode cX1_copyFrom 4 = .ok (.aload_n 1, 1) := by decide +kernel
theorem dX1_copyFrom_5 : decode cX1_copyFrom 5 = .ok (.getfield 14, 3) := by decide +kernel
theorem dX1_copyFrom_8 : decode cX1_copyFrom 8 = .ok (.invokevirtual 36, 3) := by decide +kernel
theorem dX1_copyFrom_11 : decode cX1_copyFrom 11 = .ok (.aload_n 0, 1) := by decide +kernel
theorem dX1_copyFrom_12 : decode cX1_copyFrom 12 = .ok (.getfield 20, 3) := by decide +kernel
theorem dX1_copyFrom_15 : decode cX1_copyFrom 15 = .ok (.aload_n 1, 1) := by decide +kernel
theorem dX1_copyFrom_16 : decode cX1_copyFrom 16 = .ok (.getfield 20, 3) := by decide +kernel
theorem dX1_copyFrom_19 : decode cX1_copyFrom 19 = .ok (.invokevirtual 36, 3) := by decide +kernel
theorem dX1_copyFrom_22 : decode cX1_copyFrom 22 = .ok (.aload_n 0, 1) := by decide +kernel
theorem dX1_copyFrom_23 : decode cX1_copyFrom 23 = .ok (.getfield 23, 3) := by decide +kernel
theorem dX1_copyFrom_26 : decode cX1_copyFrom 26 = .ok (.aload_n 1, 1) := by decide +kernel
theorem dX1_copyFrom_27 : decode cX1_copyFrom 27 = .ok (.getfield 23, 3) := by decide +kernel
theorem dX1_copyFrom_30 : decode cX1_copyFrom 30 = .ok (.invokevirtual 36, 3) := by decide +kernel
theorem dX1_copyFrom_33 : decode cX1_copyFrom 33 = .ok (.aload_n 0, 1) := by decide +kernel
theorem dX1_copyFrom_34 : decode cX1_copyFrom 34 = .ok (.getfield 26, 3) := by decide +kernel
theorem dX1_copyFrom_37 : decode cX1_copyFrom 37 = .ok (.aload_n 1, 1) := by decide +kernel
theorem dX1_copyFrom_38 : decode cX1_copyFrom 38 = .ok (.getfield 26, 3) := by decide +kernel
theorem dX1_copyFrom_41 : decode cX1_copyFrom 41 = .ok (.invokevirtual 36, 3) := by decide +kernel
theorem dX1_copyFrom_44 : decode cX1_copyFrom 44 = .ok (.return_, 1) := by decide +kernel
theorem dX1_appendEach_0 : decode cX1_appendEach 0 = .ok (.iconst 0, 1) := by decide +kernel
theorem dX1_appendEach_1 : decode cX1_appendEach 1 = .ok (.istore_n 2, 1) := by decide +kernel
theorem dX1_appendEach_2 : decode cX1_appendEach 2 = .ok (.iload_n 2, 1) := by decide +kernel
theorem dX1_appendEach_3 : decode cX1_appendEach 3 = .ok (.aload_n 1, 1) := by decide +kernel
theorem dX1_appendEach_4 : decode cX1_appendEach 4 = .ok (.invokevirtual 29, 3) := by decide +kernel
theorem dX1_appendEach_7 : decode cX1_appendEach 7 = .ok (.if_icmp .ge 47, 3) := by decide +kernel
theorem dX1_appendEach_10 : decode cX1_appendEach 10 = .ok (.aload_n 1, 1) := by decide +kernel
theorem dX1_appendEach_11 : decode cX1_appendEach 11 = .ok (.iload_n 2, 1) := by decide +kernel
theorem dX1_appendEach_12 : decode cX1_appendEach 12 = .ok (.invokevirtual 40, 3) := by decide +kernel
theorem dX1_appendEach_15 : decode cX1_appendEach 15 = .ok (.istore_n 3, 1) := by decide +kernel
theorem dX1_appendEach_16 : decode cX1_appendEach 16 = .ok (.aload_n 0, 1) := by decide +kernel
theorem dX1_appendEach_17 : decode cX1_appendEach 17 = .ok (.getfield 14, 3) := by decide +kernel
theorem dX1_appendEach_20 : decode cX1_appendEach 20 = .ok (.iconst 1, 1) := by decide +kernel
theorem dX1_appendEach_21 : decode cX1_appendEach 21 = .ok (.invokevirtual 44, 3) := by decide +kernel
theorem dX1_appendEach_24 : decode cX1_appendEach 24 = .ok (.aload_n 0, 1) := by decide +kernel
theorem dX1_appendEach_25 : decode cX1_appendEach 25 = .ok (.getfield 20, 3) := by decide +kernel
theorem dX1_appendEach_28 : decode cX1_appendEach 28 = .ok (.iload_n 3, 1) := by decide +kernel
theorem dX1_appendEach_29 : decode cX1_appendEach 29 = .ok (.invokevirtual 44, 3) := by decide +kernel
theorem dX1_appendEach_32 : decode cX1_appendEach 32 = .ok (.aload_n 0, 1) := by decide +kernel
theorem dX1_appendEach_33 : decode cX1_appendEach 33 = .ok (.getfield 23, 3) := by decide +kernel
theorem dX1_appendEach_36 : decode cX1_appendEach 36 = .ok (.iload_n 3, 1) := by decide +kernel
theorem dX1_appendEach_37 : decode cX1_appendEach 37 = .ok (.invokevirtual 44, 3) := by decide +kernel
theorem dX1_appendEach_40 : decode cX1_appendEach 40 = .ok (.aload_n 0, 1) := by decide +kernel
theorem dX1_appendEach_41 : decode cX1_appendEach 41 = .ok (.getfield 26, 3) := by decide +kernel
theorem dX1_appendEach_44 : decode cX1_appendEach 44 = .ok (.iload_n 3, 1) := by decide +kernel
theorem dX1_appendEach_45 : decode cX1_appendEach 45 = .ok (.invokevirtual 44, 3) := by decide +kernel
theorem dX1_appendEach_48 : decode cX1_appendEach 48 = .ok (.iinc 2 1, 3) := by decide +kernel
theorem dX1_appendEach_51 : decode cX1_appendEach 51 = .ok (.goto (-49), 3) := by decide +kernel
theorem dX1_appendEach_54 : decode cX1_appendEach 54 = .ok (.return_, 1) := by decide +kernel
theorem dX1_appendAll_0 : decode cX1_appendAll 0 = .ok (.aload_n 0, 1) := by decide +kernel
theorem dX1_appendAll_1 : decode cX1_appendAll 1 = .ok (.getfield 14, 3) := by decide +kernel
theorem dX1_appendAll_4 : decode cX1_appendAll 4 = .ok (.aload_n 1, 1) := by decide +kernel
theorem dX1_appendAll_5 : decode cX1_appendAll 5 = .ok (.getfield 14, 3) := by decide +kernel
theorem dX1_appendAll_8 : decode cX1_appendAll 8 = .ok (.invokevirtual 47, 3) := by decide +kernel
theorem dX1_appendAll_11 : decode cX1_appendAll 11 = .ok (.aload_n 0, 1) := by decide +kernel
theorem dX1_appendAll_12 : decode cX1_appendAll 12 = .ok (.getfield 20, 3) := by decide +kernel
theorem dX1_appendAll_15 : decode cX1_appendAll 15 = .ok (.aload_n 1, 1) := by decide +kernel
theorem dX1_appendAll_16 : decode cX1_appendAll 16 = .ok (.getfield 20, 3) := by decide +kernel
theorem dX1_appendAll_19 : decode cX1_appendAll 19 = .ok (.invokevirtual 47, 3) := by decide +kernel
theorem dX1_appendAll_22 : decode cX1_appendAll 22 = .ok (.aload_n 0, 1) := by decide +kernel
theorem dX1_appendAll_23 : decode cX1_appendAll 23 = .ok (.getfield 23, 3) := by decide +kernel
theorem dX1_appendAll_26 : decode cX1_appendAll 26 = .ok (.aload_n 1, 1) := by decide +kernel
theorem dX1_appendAll_27 : decode cX1_appendAll 27 = .ok (.getfield 23, 3) := by decide +kernel
theorem dX1_appendAll_30 : decode cX1_appendAll 30 = .ok (.invokevirtual 47, 3) := by decide +kernel
theorem dX1_appendAll_33 : decode cX1_appendAll 33 = .ok (.aload_n 0, 1) := by decide +kernel
theorem dX1_appendAll_34 : decode cX1_appendAll 34 = .ok (.getfield 26, 3) := by decide +kernel
theorem dX1_appendAll_37 : decode cX1_appendAll 37 = .ok (.aload_n 1, 1) := by decide +kernel
theorem dX1_appendAll_38 : decode cX1_appendAll 38 = .ok (.getfield 26, 3) := by decide +kernel
theorem dX1_appendAll_41 : decode cX1_appendAll 41 = .ok (.invokevirtual 47, 3) := by decide +kernel
theorem dX1_appendAll_44 : decode cX1_appendAll 44 = .ok (.return_, 1) := by decide +kernel
theorem dX1_wholeMiddle_0 : decode cX1_wholeMiddle 0 = .ok (.aload_n 0, 1) := by decide +kernel
theorem dX1_wholeMiddle_1 : decode cX1_wholeMiddle 1 = .ok (.getfield 14, 3) := by decide +kernel
theorem dX1_wholeMiddle_4 : decode cX1_wholeMiddle 4 = .ok (.iload_n 1, 1) := by decide +kernel
theorem dX1_wholeMiddle_5 : decode cX1_wholeMiddle 5 = .ok (.invokevirtual 40, 3) := by decide +kernel
theorem dX1_wholeMiddle_8 : decode cX1_wholeMiddle 8 = .ok (.istore_n 2, 1) := by decide +kernel
theorem dX1_wholeMiddle_9 : decode cX1_wholeMiddle 9 = .ok (.iload_n 2, 1) := by decide +kernel
theorem dX1_wholeMiddle_10 : decode cX1_wholeMiddle 10 = .ok (.ifCond .le 16, 3) := by decide +kernel
theorem dX1_wholeMiddle_13 : decode cX1_wholeMiddle 13 = .ok (.aload_n 0, 1) := by decide +kernel
theorem dX1_wholeMiddle_14 : decode cX1_wholeMiddle 14 = .ok (.getfield 20, 3) := by decide +kernel
theorem dX1_wholeMiddle_17 : decode cX1_wholeMiddle 17 = .ok (.iload_n 1, 1) := by decide +kernel
theorem dX1_wholeMiddle_18 : decode cX1_wholeMiddle 18 = .ok (.invokevirtual 40, 3) := by decide +kernel
theorem dX1_wholeMiddle_21 : decode cX1_wholeMiddle 21 = .ok (.iload_n 2, 1) := by decide +kernel
theorem dX1_wholeMiddle_22 : decode cX1_wholeMiddle 22 = .ok (.idiv, 1) := by decide +kernel
theorem dX1_wholeMiddle_23 : decode cX1_wholeMiddle 23 = .ok (.goto 4, 3) := by decide +kernel
theorem dX1_wholeMiddle_26 : decode cX1_wholeMiddle 26 = .ok (.iconst 0, 1) := by decide +kernel
theorem dX1_wholeMiddle_27 : decode cX1_wholeMiddle 27 = .ok (.ireturn, 1) := by decide +kernel
theorem dX1_floatMiddle_0 : decode cX1_floatMiddle 0 = .ok (.aload_n 0, 1) := by decide +kernel
theorem dX1_floatMiddle_1 : decode cX1_floatMiddle 1 = .ok (.getfield 14, 3) := by decide +kernel
theorem dX1_floatMiddle_4 : decode cX1_floatMiddle 4 = .ok (.iload_n 1, 1) := by decide +kernel
theorem dX1_floatMiddle_5 : decode cX1_floatMiddle 5 = .ok (.invokevirtual 40, 3) := by decide +kernel
theorem dX1_floatMiddle_8 : decode cX1_floatMiddle 8 = .ok (.istore_n 2, 1) := by decide +kernel
theorem dX1_floatMiddle_9 : decode cX1_floatMiddle 9 = .ok (.iload_n 2, 1) := by decide +kernel
theorem dX1_floatMiddle_10 : decode cX1_floatMiddle 10 = .ok (.ifCond .le 18, 3) := by decide +kernel
theorem dX1_floatMiddle_13 : decode cX1_floatMiddle 13 = .ok (.aload_n 0, 1) := by decide +kernel
theorem dX1_floatMiddle_14 : decode cX1_floatMiddle 14 = .ok (.getfield 20, 3) := by decide +kernel
theorem dX1_floatMiddle_17 : decode cX1_floatMiddle 17 = .ok (.iload_n 1, 1) := by decide +kernel
theorem dX1_floatMiddle_18 : decode cX1_floatMiddle 18 = .ok (.invokevirtual 40, 3) := by decide +kernel
theorem dX1_floatMiddle_21 : decode cX1_floatMiddle 21 = .ok (.i2f, 1) := by decide +kernel
theorem dX1_floatMiddle_22 : decode cX1_floatMiddle 22 = .ok (.iload_n 2, 1) := by decide +kernel
theorem dX1_floatMiddle_23 : decode cX1_floatMiddle 23 = .ok (.i2f, 1) := by decide +kernel
theorem dX1_floatMiddle_24 : decode cX1_floatMiddle 24 = .ok (.fdiv, 1) := by decide +kernel
theorem dX1_floatMiddle_25 : decode cX1_floatMiddle 25 = .ok (.goto 4, 3) := by decide +kernel
theorem dX1_floatMiddle_28 : decode cX1_floatMiddle 28 = .ok (.fconst 0, 1) := by decide +kernel
theorem dX1_floatMiddle_29 : decode cX1_floatMiddle 29 = .ok (.freturn, 1) := by decide +kernel
theorem dX1_weightAheadOf_0 : decode cX1_weightAheadOf 0 = .ok (.iconst 0, 1) := by decide +kernel
theorem dX1_weightAheadOf_1 : decode cX1_weightAheadOf 1 = .ok (.istore_n 2, 1) := by decide +kernel
theorem dX1_weightAheadOf_2 : decode cX1_weightAheadOf 2 = .ok (.iconst 0, 1) := by decide +kernel
theorem dX1_weightAheadOf_3 : decode cX1_weightAheadOf 3 = .ok (.istore_n 3, 1) := by decide +kernel
theorem dX1_weightAheadOf_4 : decode cX1_weightAheadOf 4 = .ok (.iload_n 3, 1) := by decide +kernel
theorem dX1_weightAheadOf_5 : decode cX1_weightAheadOf 5 = .ok (.iload_n 1, 1) := by decide +kernel
theorem dX1_weightAheadOf_6 : decode cX1_weightAheadOf 6 = .ok (.if_icmp .ge 28, 3) := by decide +kernel
theorem dX1_weightAheadOf_9 : decode cX1_weightAheadOf 9 = .ok (.iload_n 3, 1) := by decide +kernel
theorem dX1_weightAheadOf_10 : decode cX1_weightAheadOf 10 = .ok (.aload_n 0, 1) := by decide +kernel
theorem dX1_weightAheadOf_11 : decode cX1_weightAheadOf 11 = .ok (.invokevirtual 50, 3) := by decide +kernel
theorem dX1_weightAheadOf_14 : decode cX1_weightAheadOf 14 = .ok (.if_icmp .ge 20, 3) := by decide +kernel
theorem dX1_weightAheadOf_17 : decode cX1_weightAheadOf 17 = .ok (.iload_n 2, 1) := by decide +kernel
theorem dX1_weightAheadOf_18 : decode cX1_weightAheadOf 18 = .ok (.aload_n 0, 1) := by decide +kernel
theorem dX1_weightAheadOf_19 : decode cX1_weightAheadOf 19 = .ok (.getfield 14, 3) := by decide +kernel
theorem dX1_weightAheadOf_22 : decode cX1_weightAheadOf 22 = .ok (.iload_n 3, 1) := by decide +kernel
theorem dX1_weightAheadOf_23 : decode cX1_weightAheadOf 23 = .ok (.invokevirtual 40, 3) := by decide +kernel
theorem dX1_weightAheadOf_26 : decode cX1_weightAheadOf 26 = .ok (.iadd, 1) := by decide +kernel
theorem dX1_weightAheadOf_27 : decode cX1_weightAheadOf 27 = .ok (.istore_n 2, 1) := by decide +kernel
theorem dX1_weightAheadOf_28 : decode cX1_weightAheadOf 28 = .ok (.iinc 3 1, 3) := by decide +kernel
theorem dX1_weightAheadOf_31 : decode cX1_weightAheadOf 31 = .ok (.goto (-27), 3) := by decide +kernel
theorem dX1_weightAheadOf_34 : decode cX1_weightAheadOf 34 = .ok (.iload_n 2, 1) := by decide +kernel
theorem dX1_weightAheadOf_35 : decode cX1_weightAheadOf 35 = .ok (.ireturn, 1) := by decide +kernel
theorem dX1_packBy_0 : decode cX1_packBy 0 = .ok (.aload_n 0, 1) := by decide +kernel
theorem dX1_packBy_1 : decode cX1_packBy 1 = .ok (.invokevirtual 53, 3) := by decide +kernel
theorem dX1_packBy_4 : decode cX1_packBy 4 = .ok (.aload_n 0, 1) := by decide +kernel
theorem dX1_packBy_5 : decode cX1_packBy 5 = .ok (.iload_n 1, 1) := by decide +kernel
theorem dX1_packBy_6 : decode cX1_packBy 6 = .ok (.invokevirtual 56, 3) := by decide +kernel
theorem dX1_packBy_9 : decode cX1_packBy 9 = .ok (.return_, 1) := by decide +kernel
theorem dX1_order_0 : decode cX1_order 0 = .ok (.iconst 1, 1) := by decide +kernel
theorem dX1_order_1 : decode cX1_order 1 = .ok (.istore_n 1, 1) := by decide +kernel
theorem dX1_order_2 : decode cX1_order 2 = .ok (.iload_n 1, 1) := by decide +kernel
theorem dX1_order_3 : decode cX1_order 3 = .ok (.aload_n 0, 1) := by decide +kernel
theorem dX1_order_4 : decode cX1_order 4 = .ok (.invokevirtual 50, 3) := by decide +kernel
theorem dX1_order_7 : decode cX1_order 7 = .ok (.if_icmp .ge 40, 3) := by decide +kernel
theorem dX1_order_10 : decode cX1_order 10 = .ok (.iload_n 1, 1) := by decide +kernel
theorem dX1_order_11 : decode cX1_order 11 = .ok (.istore_n 2, 1) := by decide +kernel
theorem dX1_order_12 : decode cX1_order 12 = .ok (.iload_n 2, 1) := by decide +kernel
theorem dX1_order_13 : decode cX1_order 13 = .ok (.ifCond .le 28, 3) := by decide +kernel
theorem dX1_order_16 : decode cX1_order 16 = .ok (.aload_n 0, 1) := by decide +kernel
theorem dX1_order_17 : decode cX1_order 17 = .ok (.iload_n 2, 1) := by decide +kernel
theorem dX1_order_18 : decode cX1_order 18 = .ok (.iconst 1, 1) := by decide +kernel
theorem dX1_order_19 : decode cX1_order 19 = .ok (.isub, 1) := by decide +kernel
theorem dX1_order_20 : decode cX1_order 20 = .ok (.iload_n 2, 1) := by decide +kernel
theorem dX1_order_21 : decode cX1_order 21 = .ok (.invokevirtual 59, 3) := by decide +kernel
theorem dX1_order_24 : decode cX1_order 24 = .ok (.ifCond .eq 17, 3) := by decide +kernel
theorem dX1_order_27 : decode cX1_order 27 = .ok (.aload_n 0, 1) := by decide +kernel
theorem dX1_order_28 : decode cX1_order 28 = .ok (.iload_n 2, 1) := by decide +kernel
theorem dX1_order_29 : decode cX1_order 29 = .ok (.iconst 1, 1) := by decide +kernel
theorem dX1_order_30 : decode cX1_order 30 = .ok (.isub, 1) := by decide +kernel
theorem dX1_order_31 : decode cX1_order 31 = .ok (.iload_n 2, 1) := by decide +kernel
theorem dX1_order_32 : decode cX1_order 32 = .ok (.invokevirtual 63, 3) := by decide +kernel
theorem dX1_order_35 : decode cX1_order 35 = .ok (.iinc 2 (-1), 3) := by decide +kernel
theorem dX1_order_38 : decode cX1_order 38 = .ok (.goto (-26), 3) := by decide +kernel
theorem dX1_order_41 : decode cX1_order 41 = .ok (.iinc 1 1, 3) := by decide +kernel
theorem dX1_order_44 : decode cX1_order 44 = .ok (.goto (-42), 3) := by decide +kernel
theorem dX1_order_47 : decode cX1_order 47 = .ok (.return_, 1) := by decide +kernel
theorem dX1_isMiddleAbove_0 : decode cX1_isMiddleAbove 0 = .ok (.aload_n 0, 1) := by decide +kernel
theorem dX1_isMiddleAbove_1 : decode cX1_isMiddleAbove 1 = .ok (.getfield 20, 3) := by decide +kernel
theorem dX1_isMiddleAbove_4 : decode cX1_isMiddleAbove 4 = .ok (.iload_n 1, 1) := by decide +kernel
theorem dX1_isMiddleAbove_5 : decode cX1_isMiddleAbove 5 = .ok (.invokevirtual 40, 3) := by decide +kernel
theorem dX1_isMiddleAbove_8 : decode cX1_isMiddleAbove 8 = .ok (.i2l, 1) := by decide +kernel
theorem dX1_isMiddleAbove_9 : decode cX1_isMiddleAbove 9 = .ok (.aload_n 0, 1) := by decide +kernel
theorem dX1_isMiddleAbove_10 : decode cX1_isMiddleAbove 10 = .ok (.getfield 14, 3) := by decide +kernel
theorem dX1_isMiddleAbove_13 : decode cX1_isMiddleAbove 13 = .ok (.iload_n 2, 1) := by decide +kernel
theorem dX1_isMiddleAbove_14 : decode cX1_isMiddleAbove 14 = .ok (.invokevirtual 40, 3) := by decide +kernel
theorem dX1_isMiddleAbove_17 : decode cX1_isMiddleAbove 17 = .ok (.i2l, 1) := by decide +kernel
theorem dX1_isMiddleAbove_18 : decode cX1_isMiddleAbove 18 = .ok (.lmul, 1) := by decide +kernel
theorem dX1_isMiddleAbove_19 : decode cX1_isMiddleAbove 19 = .ok (.lstore_n 3, 1) := by decide +kernel
theorem dX1_isMiddleAbove_20 : decode cX1_isMiddleAbove 20 = .ok (.aload_n 0, 1) := by decide +kernel
theorem dX1_isMiddleAbove_21 : decode cX1_isMiddleAbove 21 = .ok (.getfield 20, 3) := by decide +kernel
theorem dX1_isMiddleAbove_24 : decode cX1_isMiddleAbove 24 = .ok (.iload_n 2, 1) := by decide +kernel
theorem dX1_isMiddleAbove_25 : decode cX1_isMiddleAbove 25 = .ok (.invokevirtual 40, 3) := by decide +kernel
theorem dX1_isMiddleAbove_28 : decode cX1_isMiddleAbove 28 = .ok (.i2l, 1) := by decide +kernel
theorem dX1_isMiddleAbove_29 : decode cX1_isMiddleAbove 29 = .ok (.aload_n 0, 1) := by decide +kernel
theorem dX1_isMiddleAbove_30 : decode cX1_isMiddleAbove 30 = .ok (.getfield 14, 3) := by decide +kernel
theorem dX1_isMiddleAbove_33 : decode cX1_isMiddleAbove 33 = .ok (.iload_n 1, 1) := by decide +kernel
theorem dX1_isMiddleAbove_34 : decode cX1_isMiddleAbove 34 = .ok (.invokevirtual 40, 3) := by decide +kernel
theorem dX1_isMiddleAbove_37 : decode cX1_isMiddleAbove 37 = .ok (.i2l, 1) := by decide +kernel
theorem dX1_isMiddleAbove_38 : decode cX1_isMiddleAbove 38 = .ok (.lmul, 1) := by decide +kernel
theorem dX1_isMiddleAbove_39 : decode cX1_isMiddleAbove 39 = .ok (.lstore 5, 2) := by decide +kernel
theorem dX1_isMiddleAbove_41 : decode cX1_isMiddleAbove 41 = .ok (.lload_n 3, 1) := by decide +kernel
theorem dX1_isMiddleAbove_42 : decode cX1_isMiddleAbove 42 = .ok (.lload 5, 2) := by decide +kernel
theorem dX1_isMiddleAbove_44 : decode cX1_isMiddleAbove 44 = .ok (.lcmp, 1) := by decide +kernel
theorem dX1_isMiddleAbove_45 : decode cX1_isMiddleAbove 45 = .ok (.ifCond .le 7, 3) := by decide +kernel
theorem dX1_isMiddleAbove_48 : decode cX1_isMiddleAbove 48 = .ok (.iconst 1, 1) := by decide +kernel
theorem dX1_isMiddleAbove_49 : decode cX1_isMiddleAbove 49 = .ok (.goto 4, 3) := by decide +kernel
theorem dX1_isMiddleAbove_52 : decode cX1_isMiddleAbove 52 = .ok (.iconst 0, 1) := by decide +kernel
theorem dX1_isMiddleAbove_53 : decode cX1_isMiddleAbove 53 = .ok (.ireturn, 1) := by decide +kernel
theorem dX1_exchange_0 : decode cX1_exchange 0 = .ok (.aload_n 0, 1) := by decide +kernel
theorem dX1_exchange_1 : decode cX1_exchange 1 = .ok (.getfield 14, 3) := by decide +kernel
theorem dX1_exchange_4 : decode cX1_exchange 4 = .ok (.iload_n 1, 1) := by decide +kernel
theorem dX1_exchange_5 : decode cX1_exchange 5 = .ok (.iload_n 2, 1) := by decide +kernel
theorem dX1_exchange_6 : decode cX1_exchange 6 = .ok (.invokevirtual 67, 3) := by decide +kernel
theorem dX1_exchange_9 : decode cX1_exchange 9 = .ok (.aload_n 0, 1) := by decide +kernel
theorem dX1_exchange_10 : decode cX1_exchange 10 = .ok (.getfield 20, 3) := by decide +kernel
theorem dX1_exchange_13 : decode cX1_exchange 13 = .ok (.iload_n 1, 1) := by decide +kernel
theorem dX1_exchange_14 : decode cX1_exchange 14 = .ok (.iload_n 2, 1) := by decide +kernel
theorem dX1_exchange_15 : decode cX1_exchange 15 = .ok (.invokevirtual 67, 3) := by decide +kernel
theorem dX1_exchange_18 : decode cX1_exchange 18 = .ok (.aload_n 0, 1) := by decide +kernel
theorem dX1_exchange_19 : decode cX1_exchange 19 = .ok (.getfield 23, 3) := by decide +kernel
theorem dX1_exchange_22 : decode cX1_exchange 22 = .ok (.iload_n 1, 1) := by decide +kernel
theorem dX1_exchange_23 : decode cX1_exchange 23 = .ok (.iload_n 2, 1) := by decide +kernel
theorem dX1_exchange_24 : decode cX1_exchange 24 = .ok (.invokevirtual 67, 3) := by decide +kernel
theorem dX1_exchange_27 : decode cX1_exchange 27 = .ok (.aload_n 0, 1) := by decide +kernel
theorem dX1_exchange_28 : decode cX1_exchange 28 = .ok (.getfield 26, 3) := by decide +kernel
theorem dX1_exchange_31 : decode cX1_exchange 31 = .ok (.iload_n 1, 1) := by decide +kernel
theorem dX1_exchange_32 : decode cX1_exchange 32 = .ok (.iload_n 2, 1) := by decide +kernel
theorem dX1_exchange_33 : decode cX1_exchange 33 = .ok (.invokevirtual 67, 3) := by decide +kernel
theorem dX1_exchange_36 : decode cX1_exchange 36 = .ok (.return_, 1) := by decide +kernel
theorem dX1_putTogether_0 : decode cX1_putTogether 0 = .ok (.aload_n 0, 1) := by decide +kernel
theorem dX1_putTogether_1 : decode cX1_putTogether 1 = .ok (.getfield 14, 3) := by decide +kernel
theorem dX1_putTogether_4 : decode cX1_putTogether 4 = .ok (.invokevirtual 68, 3) := by decide +kernel
theorem dX1_putTogether_7 : decode cX1_putTogether 7 = .ok (.istore_n 2, 1) := by decide +kernel
theorem dX1_putTogether_8 : decode cX1_putTogether 8 = .ok (.iconst 0, 1) := by decide +kernel
theorem dX1_putTogether_9 : decode cX1_putTogether 9 = .ok (.istore_n 3, 1) := by decide +kernel
theorem dX1_putTogether_10 : decode cX1_putTogether 10 = .ok (.iconst 0, 1) := by decide +kernel
theorem dX1_putTogether_11 : decode cX1_putTogether 11 = .ok (.istore 4, 2) := by decide +kernel
theorem dX1_putTogether_13 : decode cX1_putTogether 13 = .ok (.iconst 1, 1) := by decide +kernel
theorem dX1_putTogether_14 : decode cX1_putTogether 14 = .ok (.istore 5, 2) := by decide +kernel
theorem dX1_putTogether_16 : decode cX1_putTogether 16 = .ok (.iload 5, 2) := by decide +kernel
theorem dX1_putTogether_18 : decode cX1_putTogether 18 = .ok (.aload_n 0, 1) := by decide +kernel
theorem dX1_putTogether_19 : decode cX1_putTogether 19 = .ok (.invokevirtual 50, 3) := by decide +kernel
theorem dX1_putTogether_22 : decode cX1_putTogether 22 = .ok (.if_icmp .ge 75, 3) := by decide +kernel
theorem dX1_putTogether_25 : decode cX1_putTogether 25 = .ok (.aload_n 0, 1) := by decide +kernel
theorem dX1_putTogether_26 : decode cX1_putTogether 26 = .ok (.getfield 14, 3) := by decide +kernel
theorem dX1_putTogether_29 : decode cX1_putTogether 29 = .ok (.iload 4, 2) := by decide +kernel
theorem dX1_putTogether_31 : decode cX1_putTogether 31 = .ok (.invokevirtual 40, 3) := by decide +kernel
theorem dX1_putTogether_34 : decode cX1_putTogether 34 = .ok (.aload_n 0, 1) := by decide +kernel
theorem dX1_putTogether_35 : decode cX1_putTogether 35 = .ok (.getfield 14, 3) := by decide +kernel
theorem dX1_putTogether_38 : decode cX1_putTogether 38 = .ok (.iload 5, 2) := by decide +kernel
theorem dX1_putTogether_40 : decode cX1_putTogether 40 = .ok (.invokevirtual 40, 3) := by decide +kernel
theorem dX1_putTogether_43 : decode cX1_putTogether 43 = .ok (.iadd, 1) := by decide +kernel
theorem dX1_putTogether_44 : decode cX1_putTogether 44 = .ok (.istore 6, 2) := by decide +kernel
theorem dX1_putTogether_46 : decode cX1_putTogether 46 = .ok (.iload 6, 2) := by decide +kernel
theorem dX1_putTogether_48 : decode cX1_putTogether 48 = .ok (.iload_n 3, 1) := by decide +kernel
theorem dX1_putTogether_49 : decode cX1_putTogether 49 = .ok (.iload_n 2, 1) := by decide +kernel
theorem dX1_putTogether_50 : decode cX1_putTogether 50 = .ok (.iload_n 1, 1) := by decide +kernel
theorem dX1_putTogether_51 : decode cX1_putTogether 51 = .ok (.invokestatic 71, 3) := by decide +kernel
theorem dX1_putTogether_54 : decode cX1_putTogether 54 = .ok (.ifCond .eq 14, 3) := by decide +kernel
theorem dX1_putTogether_57 : decode cX1_putTogether 57 = .ok (.aload_n 0, 1) := by decide +kernel
theorem dX1_putTogether_58 : decode cX1_putTogether 58 = .ok (.iload 4, 2) := by decide +kernel
theorem dX1_putTogether_60 : decode cX1_putTogether 60 = .ok (.iload 5, 2) := by decide +kernel
theorem dX1_putTogether_62 : decode cX1_putTogether 62 = .ok (.invokevirtual 75, 3) := by decide +kernel
theorem dX1_putTogether_65 : decode cX1_putTogether 65 = .ok (.goto 26, 3) := by decide +kernel
theorem dX1_putTogether_68 : decode cX1_putTogether 68 = .ok (.iload_n 3, 1) := by decide +kernel
theorem dX1_putTogether_69 : decode cX1_putTogether 69 = .ok (.aload_n 0, 1) := by decide +kernel
theorem dX1_putTogether_70 : decode cX1_putTogether 70 = .ok (.getfield 14, 3) := by decide +kernel
theorem dX1_putTogether_73 : decode cX1_putTogether 73 = .ok (.iload 4, 2) := by decide +kernel
theorem dX1_putTogether_75 : decode cX1_putTogether 75 = .ok (.invokevirtual 40, 3) := by decide +kernel
theorem dX1_putTogether_78 : decode cX1_putTogether 78 = .ok (.iadd, 1) := by decide +kernel
theorem dX1_putTogether_79 : decode cX1_putTogether 79 = .ok (.istore_n 3, 1) := by decide +kernel
theorem dX1_putTogether_80 : decode cX1_putTogether 80 = .ok (.iinc 4 1, 3) := by decide +kernel
theorem dX1_putTogether_83 : decode cX1_putTogether 83 = .ok (.aload_n 0, 1) := by decide +kernel
theorem dX1_putTogether_84 : decode cX1_putTogether 84 = .ok (.iload 4, 2) := by decide +kernel
theorem dX1_putTogether_86 : decode cX1_putTogether 86 = .ok (.iload 5, 2) := by decide +kernel
theorem dX1_putTogether_88 : decode cX1_putTogether 88 = .ok (.invokevirtual 63, 3) := by decide +kernel
theorem dX1_putTogether_91 : decode cX1_putTogether 91 = .ok (.iinc 5 1, 3) := by decide +kernel
theorem dX1_putTogether_94 : decode cX1_putTogether 94 = .ok (.goto (-78), 3) := by decide +kernel
theorem dX1_putTogether_97 : decode cX1_putTogether 97 = .ok (.aload_n 0, 1) := by decide +kernel
theorem dX1_putTogether_98 : decode cX1_putTogether 98 = .ok (.iload 4, 2) := by decide +kernel
theorem dX1_putTogether_100 : decode cX1_putTogether 100 = .ok (.iconst 1, 1) := by decide +kernel
theorem dX1_putTogether_101 : decode cX1_putTogether 101 = .ok (.iadd, 1) := by decide +kernel
theorem dX1_putTogether_102 : decode cX1_putTogether 102 = .ok (.invokevirtual 78, 3) := by decide +kernel
theorem dX1_putTogether_105 : decode cX1_putTogether 105 = .ok (.return_, 1) := by decide +kernel
theorem dX1_isWithinPlace_0 : decode cX1_isWithinPlace 0 = .ok (.iload_n 0, 1) := by decide +kernel
theorem dX1_isWithinPlace_1 : decode cX1_isWithinPlace 1 = .ok (.iload_n 2, 1) := by decide +kernel
theorem dX1_isWithinPlace_2 : decode cX1_isWithinPlace 2 = .ok (.imul, 1) := by decide +kernel
theorem dX1_isWithinPlace_3 : decode cX1_isWithinPlace 3 = .ok (.iload_n 3, 1) := by decide +kernel
theorem dX1_isWithinPlace_4 : decode cX1_isWithinPlace 4 = .ok (.imul, 1) := by decide +kernel
theorem dX1_isWithinPlace_5 : decode cX1_isWithinPlace 5 = .ok (.iconst 2, 1) := by decide +kernel
theorem dX1_isWithinPlace_6 : decode cX1_isWithinPlace 6 = .ok (.iload_n 1, 1) := by decide +kernel
theorem dX1_isWithinPlace_7 : decode cX1_isWithinPlace 7 = .ok (.imul, 1) := by decide +kernel
theorem dX1_isWithinPlace_8 : decode cX1_isWithinPlace 8 = .ok (.iload_n 0, 1) := by decide +kernel
theorem dX1_isWithinPlace_9 : decode cX1_isWithinPlace 9 = .ok (.iadd, 1) := by decide +kernel
theorem dX1_isWithinPlace_10 : decode cX1_isWithinPlace 10 = .ok (.iconst 2, 1) := by decide +kernel
theorem dX1_isWithinPlace_11 : decode cX1_isWithinPlace 11 = .ok (.iload_n 2, 1) := by decide +kernel
theorem dX1_isWithinPlace_12 : decode cX1_isWithinPlace 12 = .ok (.imul, 1) := by decide +kernel
theorem dX1_isWithinPlace_13 : decode cX1_isWithinPlace 13 = .ok (.iconst 2, 1) := by decide +kernel
theorem dX1_isWithinPlace_14 : decode cX1_isWithinPlace 14 = .ok (.iload_n 1, 1) := by decide +kernel
theorem dX1_isWithinPlace_15 : decode cX1_isWithinPlace 15 = .ok (.imul, 1) := by decide +kernel
theorem dX1_isWithinPlace_16 : decode cX1_isWithinPlace 16 = .ok (.isub, 1) := by decide +kernel
theorem dX1_isWithinPlace_17 : decode cX1_isWithinPlace 17 = .ok (.iload_n 0, 1) := by decide +kernel
theorem dX1_isWithinPlace_18 : decode cX1_isWithinPlace 18 = .ok (.isub, 1) := by decide +kernel
theorem dX1_isWithinPlace_19 : decode cX1_isWithinPlace 19 = .ok (.imul, 1) := by decide +kernel
theorem dX1_isWithinPlace_20 : decode cX1_isWithinPlace 20 = .ok (.if_icmp .gt 7, 3) := by decide +kernel
theorem dX1_isWithinPlace_23 : decode cX1_isWithinPlace 23 = .ok (.iconst 1, 1) := by decide +kernel
theorem dX1_isWithinPlace_24 : decode cX1_isWithinPlace 24 = .ok (.goto 4, 3) := by decide +kernel
theorem dX1_isWithinPlace_27 : decode cX1_isWithinPlace 27 = .ok (.iconst 0, 1) := by decide +kernel
theorem dX1_isWithinPlace_28 : decode cX1_isWithinPlace 28 = .ok (.ireturn, 1) := by decide +kernel
theorem dX1_unite_0 : decode cX1_unite 0 = .ok (.aload_n 0, 1) := by decide +kernel
theorem dX1_unite_1 : decode cX1_unite 1 = .ok (.getfield 14, 3) := by decide +kernel
theorem dX1_unite_4 : decode cX1_unite 4 = .ok (.iload_n 1, 1) := by decide +kernel
theorem dX1_unite_5 : decode cX1_unite 5 = .ok (.aload_n 0, 1) := by decide +kernel
theorem dX1_unite_6 : decode cX1_unite 6 = .ok (.getfield 14, 3) := by decide +kernel
theorem dX1_unite_9 : decode cX1_unite 9 = .ok (.iload_n 1, 1) := by decide +kernel
theorem dX1_unite_10 : decode cX1_unite 10 = .ok (.invokevirtual 40, 3) := by decide +kernel
theorem dX1_unite_13 : decode cX1_unite 13 = .ok (.aload_n 0, 1) := by decide +kernel
theorem dX1_unite_14 : decode cX1_unite 14 = .ok (.getfield 14, 3) := by decide +kernel
theorem dX1_unite_17 : decode cX1_unite 17 = .ok (.iload_n 2, 1) := by decide +kernel
theorem dX1_unite_18 : decode cX1_unite 18 = .ok (.invokevirtual 40, 3) := by decide +kernel
theorem dX1_unite_21 : decode cX1_unite 21 = .ok (.iadd, 1) := by decide +kernel
theorem dX1_unite_22 : decode cX1_unite 22 = .ok (.invokevirtual 81, 3) := by decide +kernel
theorem dX1_unite_25 : decode cX1_unite 25 = .ok (.aload_n 0, 1) := by decide +kernel
theorem dX1_unite_26 : decode cX1_unite 26 = .ok (.getfield 20, 3) := by decide +kernel
theorem dX1_unite_29 : decode cX1_unite 29 = .ok (.iload_n 1, 1) := by decide +kernel
theorem dX1_unite_30 : decode cX1_unite 30 = .ok (.aload_n 0, 1) := by decide +kernel
theorem dX1_unite_31 : decode cX1_unite 31 = .ok (.getfield 20, 3) := by decide +kernel
theorem dX1_unite_34 : decode cX1_unite 34 = .ok (.iload_n 1, 1) := by decide +kernel
theorem dX1_unite_35 : decode cX1_unite 35 = .ok (.invokevirtual 40, 3) := by decide +kernel
theorem dX1_unite_38 : decode cX1_unite 38 = .ok (.aload_n 0, 1) := by decide +kernel
theorem dX1_unite_39 : decode cX1_unite 39 = .ok (.getfield 20, 3) := by decide +kernel
theorem dX1_unite_42 : decode cX1_unite 42 = .ok (.iload_n 2, 1) := by decide +kernel
theorem dX1_unite_43 : decode cX1_unite 43 = .ok (.invokevirtual 40, 3) := by decide +kernel
theorem dX1_unite_46 : decode cX1_unite 46 = .ok (.iadd, 1) := by decide +kernel
theorem dX1_unite_47 : decode cX1_unite 47 = .ok (.invokevirtual 81, 3) := by decide +kernel
theorem dX1_unite_50 : decode cX1_unite 50 = .ok (.aload_n 0, 1) := by decide +kernel
theorem dX1_unite_51 : decode cX1_unite 51 = .ok (.getfield 23, 3) := by decide +kernel
theorem dX1_unite_54 : decode cX1_unite 54 = .ok (.iload_n 1, 1) := by decide +kernel
theorem dX1_unite_55 : decode cX1_unite 55 = .ok (.aload_n 0, 1) := by decide +kernel
theorem dX1_unite_56 : decode cX1_unite 56 = .ok (.getfield 23, 3) := by decide +kernel
theorem dX1_unite_59 : decode cX1_unite 59 = .ok (.iload_n 1, 1) := by decide +kernel
theorem dX1_unite_60 : decode cX1_unite 60 = .ok (.invokevirtual 40, 3) := by decide +kernel
theorem dX1_unite_63 : decode cX1_unite 63 = .ok (.aload_n 0, 1) := by decide +kernel
theorem dX1_unite_64 : decode cX1_unite 64 = .ok (.getfield 23, 3) := by decide +kernel
theorem dX1_unite_67 : decode cX1_unite 67 = .ok (.iload_n 2, 1) := by decide +kernel
theorem dX1_unite_68 : decode cX1_unite 68 = .ok (.invokevirtual 40, 3) := by decide +kernel
theorem dX1_unite_71 : decode cX1_unite 71 = .ok (.invokestatic 84, 3) := by decide +kernel
theorem dX1_unite_74 : decode cX1_unite 74 = .ok (.invokevirtual 81, 3) := by decide +kernel
theorem dX1_unite_77 : decode cX1_unite 77 = .ok (.aload_n 0, 1) := by decide +kernel
theorem dX1_unite_78 : decode cX1_unite 78 = .ok (.getfield 26, 3) := by decide +kernel
theorem dX1_unite_81 : decode cX1_unite 81 = .ok (.iload_n 1, 1) := by decide +kernel
theorem dX1_unite_82 : decode cX1_unite 82 = .ok (.aload_n 0, 1) := by decide +kernel
theorem dX1_unite_83 : decode cX1_unite 83 = .ok (.getfield 26, 3) := by decide +kernel
theorem dX1_unite_86 : decode cX1_unite 86 = .ok (.iload_n 1, 1) := by decide +kernel
theorem dX1_unite_87 : decode cX1_unite 87 = .ok (.invokevirtual 40, 3) := by decide +kernel
theorem dX1_unite_90 : decode cX1_unite 90 = .ok (.aload_n 0, 1) := by decide +kernel
theorem dX1_unite_91 : decode cX1_unite 91 = .ok (.getfield 26, 3) := by decide +kernel
theorem dX1_unite_94 : decode cX1_unite 94 = .ok (.iload_n 2, 1) := by decide +kernel
theorem dX1_unite_95 : decode cX1_unite 95 = .ok (.invokevirtual 40, 3) := by decide +kernel
theorem dX1_unite_98 : decode cX1_unite 98 = .ok (.invokestatic 90, 3) := by decide +kernel
theorem dX1_unite_101 : decode cX1_unite 101 = .ok (.invokevirtual 81, 3) := by decide +kernel
theorem dX1_unite_104 : decode cX1_unite 104 = .ok (.return_, 1) := by decide +kernel
theorem dX1_shortenTo_0 : decode cX1_shortenTo 0 = .ok (.aload_n 0, 1) := by decide +kernel
theorem dX1_shortenTo_1 : decode cX1_shortenTo 1 = .ok (.getfield 14, 3) := by decide +kernel
theorem dX1_shortenTo_4 : decode cX1_shortenTo 4 = .ok (.iload_n 1, 1) := by decide +kernel
theorem dX1_shortenTo_5 : decode cX1_shortenTo 5 = .ok (.invokevirtual 93, 3) := by decide +kernel
theorem dX1_shortenTo_8 : decode cX1_shortenTo 8 = .ok (.aload_n 0, 1) := by decide +kernel
theorem dX1_shortenTo_9 : decode cX1_shortenTo 9 = .ok (.getfield 20, 3) := by decide +kernel
theorem dX1_shortenTo_12 : decode cX1_shortenTo 12 = .ok (.iload_n 1, 1) := by decide +kernel
theorem dX1_shortenTo_13 : decode cX1_shortenTo 13 = .ok (.invokevirtual 93, 3) := by decide +kernel
theorem dX1_shortenTo_16 : decode cX1_shortenTo 16 = .ok (.aload_n 0, 1) := by decide +kernel
theorem dX1_shortenTo_17 : decode cX1_shortenTo 17 = .ok (.getfield 23, 3) := by decide +kernel
theorem dX1_shortenTo_20 : decode cX1_shortenTo 20 = .ok (.iload_n 1, 1) := by decide +kernel
theorem dX1_shortenTo_21 : decode cX1_shortenTo 21 = .ok (.invokevirtual 93, 3) := by decide +kernel
theorem dX1_shortenTo_24 : decode cX1_shortenTo 24 = .ok (.aload_n 0, 1) := by decide +kernel
theorem dX1_shortenTo_25 : decode cX1_shortenTo 25 = .ok (.getfield 26, 3) := by decide +kernel
theorem dX1_shortenTo_28 : decode cX1_shortenTo 28 = .ok (.iload_n 1, 1) := by decide +kernel
theorem dX1_shortenTo_29 : decode cX1_shortenTo 29 = .ok (.invokevirtual 93, 3) := by decide +kernel
theorem dX1_shortenTo_32 : decode cX1_shortenTo 32 = .ok (.return_, 1) := by decide +kernel
theorem dX1_quantileAt_0 : decode cX1_quantileAt 0 = .ok (.aload_n 0, 1) := by decide +kernel
theorem dX1_quantileAt_1 : decode cX1_quantileAt 1 = .ok (.getfield 14, 3) := by decide +kernel
theorem dX1_quantileAt_4 : decode cX1_quantileAt 4 = .ok (.invokevirtual 68, 3) := by decide +kernel
theorem dX1_quantileAt_7 : decode cX1_quantileAt 7 = .ok (.istore_n 2, 1) := by decide +kernel
theorem dX1_quantileAt_8 : decode cX1_quantileAt 8 = .ok (.iload_n 1, 1) := by decide +kernel
theorem dX1_quantileAt_9 : decode cX1_quantileAt 9 = .ok (.iload_n 2, 1) := by decide +kernel
theorem dX1_quantileAt_10 : decode cX1_quantileAt 10 = .ok (.imul, 1) := by decide +kernel
theorem dX1_quantileAt_11 : decode cX1_quantileAt 11 = .ok (.istore_n 3, 1) := by decide +kernel
theorem dX1_quantileAt_12 : decode cX1_quantileAt 12 = .ok (.iconst 0, 1) := by decide +kernel
theorem dX1_quantileAt_13 : decode cX1_quantileAt 13 = .ok (.istore 4, 2) := by decide +kernel
theorem dX1_quantileAt_15 : decode cX1_quantileAt 15 = .ok (.iconst 0, 1) := by decide +kernel
theorem dX1_quantileAt_16 : decode cX1_quantileAt 16 = .ok (.istore 5, 2) := by decide +kernel
theorem dX1_quantileAt_18 : decode cX1_quantileAt 18 = .ok (.aload_n 0, 1) := by decide +kernel
theorem dX1_quantileAt_19 : decode cX1_quantileAt 19 = .ok (.getfield 23, 3) := by decide +kernel
theorem dX1_quantileAt_22 : decode cX1_quantileAt 22 = .ok (.invokevirtual 94, 3) := by decide +kernel
theorem dX1_quantileAt_25 : decode cX1_quantileAt 25 = .ok (.istore 6, 2) := by decide +kernel
theorem dX1_quantileAt_27 : decode cX1_quantileAt 27 = .ok (.iconst 1, 1) := by decide +kernel
theorem dX1_quantileAt_28 : decode cX1_quantileAt 28 = .ok (.istore 7, 2) := by decide +kernel
theorem dX1_quantileAt_30 : decode cX1_quantileAt 30 = .ok (.iconst 0, 1) := by decide +kernel
theorem dX1_quantileAt_31 : decode cX1_quantileAt 31 = .ok (.istore 8, 2) := by decide +kernel
theorem dX1_quantileAt_33 : decode cX1_quantileAt 33 = .ok (.iload 8, 2) := by decide +kernel
theorem dX1_quantileAt_35 : decode cX1_quantileAt 35 = .ok (.aload_n 0, 1) := by decide +kernel
theorem dX1_quantileAt_36 : decode cX1_quantileAt 36 = .ok (.invokevirtual 50, 3) := by decide +kernel
theorem dX1_quantileAt_39 : decode cX1_quantileAt 39 = .ok (.if_icmp .ge 95, 3) := by decide +kernel
theorem dX1_quantileAt_42 : decode cX1_quantileAt 42 = .ok (.aload_n 0, 1) := by decide +kernel
theorem dX1_quantileAt_43 : decode cX1_quantileAt 43 = .ok (.getfield 20, 3) := by decide +kernel
theorem dX1_quantileAt_46 : decode cX1_quantileAt 46 = .ok (.iload 8, 2) := by decide +kernel
theorem dX1_quantileAt_48 : decode cX1_quantileAt 48 = .ok (.invokevirtual 40, 3) := by decide +kernel
theorem dX1_quantileAt_51 : decode cX1_quantileAt 51 = .ok (.istore 9, 2) := by decide +kernel
theorem dX1_quantileAt_53 : decode cX1_quantileAt 53 = .ok (.aload_n 0, 1) := by decide +kernel
theorem dX1_quantileAt_54 : decode cX1_quantileAt 54 = .ok (.getfield 14, 3) := by decide +kernel
theorem dX1_quantileAt_57 : decode cX1_quantileAt 57 = .ok (.iload 8, 2) := by decide +kernel
theorem dX1_quantileAt_59 : decode cX1_quantileAt 59 = .ok (.invokevirtual 40, 3) := by decide +kernel
theorem dX1_quantileAt_62 : decode cX1_quantileAt 62 = .ok (.istore 10, 2) := by decide +kernel
theorem dX1_quantileAt_64 : decode cX1_quantileAt 64 = .ok (.sipush 1000, 3) := by decide +kernel
theorem dX1_quantileAt_67 : decode cX1_quantileAt 67 = .ok (.iload 4, 2) := by decide +kernel
theorem dX1_quantileAt_69 : decode cX1_quantileAt 69 = .ok (.imul, 1) := by decide +kernel
theorem dX1_quantileAt_70 : decode cX1_quantileAt 70 = .ok (.sipush 500, 3) := by decide +kernel
theorem dX1_quantileAt_73 : decode cX1_quantileAt 73 = .ok (.iload 10, 2) := by decide +kernel
theorem dX1_quantileAt_75 : decode cX1_quantileAt 75 = .ok (.imul, 1) := by decide +kernel
theorem dX1_quantileAt_76 : decode cX1_quantileAt 76 = .ok (.iadd, 1) := by decide +kernel
theorem dX1_quantileAt_77 : decode cX1_quantileAt 77 = .ok (.istore 11, 2) := by decide +kernel
theorem dX1_quantileAt_79 : decode cX1_quantileAt 79 = .ok (.iload_n 3, 1) := by decide +kernel
theorem dX1_quantileAt_80 : decode cX1_quantileAt 80 = .ok (.iload 11, 2) := by decide +kernel
theorem dX1_quantileAt_82 : decode cX1_quantileAt 82 = .ok (.if_icmp .gt 27, 3) := by decide +kernel
theorem dX1_quantileAt_85 : decode cX1_quantileAt 85 = .ok (.iload 6, 2) := by decide +kernel
theorem dX1_quantileAt_87 : decode cX1_quantileAt 87 = .ok (.i2l, 1) := by decide +kernel
theorem dX1_quantileAt_88 : decode cX1_quantileAt 88 = .ok (.iload 7, 2) := by decide +kernel
theorem dX1_quantileAt_90 : decode cX1_quantileAt 90 = .ok (.i2l, 1) := by decide +kernel
theorem dX1_quantileAt_91 : decode cX1_quantileAt 91 = .ok (.iload 5, 2) := by decide +kernel
theorem dX1_quantileAt_93 : decode cX1_quantileAt 93 = .ok (.i2l, 1) := by decide +kernel
theorem dX1_quantileAt_94 : decode cX1_quantileAt 94 = .ok (.iload 9, 2) := by decide +kernel
theorem dX1_quantileAt_96 : decode cX1_quantileAt 96 = .ok (.i2l, 1) := by decide +kernel
theorem dX1_quantileAt_97 : decode cX1_quantileAt 97 = .ok (.iload 10, 2) := by decide +kernel
theorem dX1_quantileAt_99 : decode cX1_quantileAt 99 = .ok (.i2l, 1) := by decide +kernel
theorem dX1_quantileAt_100 : decode cX1_quantileAt 100 = .ok (.iload 11, 2) := by decide +kernel
theorem dX1_quantileAt_102 : decode cX1_quantileAt 102 = .ok (.i2l, 1) := by decide +kernel
theorem dX1_quantileAt_103 : decode cX1_quantileAt 103 = .ok (.iload_n 3, 1) := by decide +kernel
theorem dX1_quantileAt_104 : decode cX1_quantileAt 104 = .ok (.i2l, 1) := by decide +kernel
theorem dX1_quantileAt_105 : decode cX1_quantileAt 105 = .ok (.invokestatic 97, 3) := by decide +kernel
theorem dX1_quantileAt_108 : decode cX1_quantileAt 108 = .ok (.ireturn, 1) := by decide +kernel
theorem dX1_quantileAt_109 : decode cX1_quantileAt 109 = .ok (.iload 4, 2) := by decide +kernel
theorem dX1_quantileAt_111 : decode cX1_quantileAt 111 = .ok (.iload 10, 2) := by decide +kernel
theorem dX1_quantileAt_113 : decode cX1_quantileAt 113 = .ok (.iadd, 1) := by decide +kernel
theorem dX1_quantileAt_114 : decode cX1_quantileAt 114 = .ok (.istore 4, 2) := by decide +kernel
theorem dX1_quantileAt_116 : decode cX1_quantileAt 116 = .ok (.iload 11, 2) := by decide +kernel
theorem dX1_quantileAt_118 : decode cX1_quantileAt 118 = .ok (.istore 5, 2) := by decide +kernel
theorem dX1_quantileAt_120 : decode cX1_quantileAt 120 = .ok (.iload 9, 2) := by decide +kernel
theorem dX1_quantileAt_122 : decode cX1_quantileAt 122 = .ok (.istore 6, 2) := by decide +kernel
theorem dX1_quantileAt_124 : decode cX1_quantileAt 124 = .ok (.iload 10, 2) := by decide +kernel
theorem dX1_quantileAt_126 : decode cX1_quantileAt 126 = .ok (.istore 7, 2) := by decide +kernel
theorem dX1_quantileAt_128 : decode cX1_quantileAt 128 = .ok (.iinc 8 1, 3) := by decide +kernel
theorem dX1_quantileAt_131 : decode cX1_quantileAt 131 = .ok (.goto (-98), 3) := by decide +kernel
theorem dX1_quantileAt_134 : decode cX1_quantileAt 134 = .ok (.iload 6, 2) := by decide +kernel
theorem dX1_quantileAt_136 : decode cX1_quantileAt 136 = .ok (.i2l, 1) := by decide +kernel
theorem dX1_quantileAt_137 : decode cX1_quantileAt 137 = .ok (.iload 7, 2) := by decide +kernel
theorem dX1_quantileAt_139 : decode cX1_quantileAt 139 = .ok (.i2l, 1) := by decide +kernel
theorem dX1_quantileAt_140 : decode cX1_quantileAt 140 = .ok (.iload 5, 2) := by decide +kernel
theorem dX1_quantileAt_142 : decode cX1_quantileAt 142 = .ok (.i2l, 1) := by decide +kernel
theorem dX1_quantileAt_143 : decode cX1_quantileAt 143 = .ok (.aload_n 0, 1) := by decide +kernel
theorem dX1_quantileAt_144 : decode cX1_quantileAt 144 = .ok (.getfield 26, 3) := by decide +kernel
theorem dX1_quantileAt_147 : decode cX1_quantileAt 147 = .ok (.invokevirtual 101, 3) := by decide +kernel
theorem dX1_quantileAt_150 : decode cX1_quantileAt 150 = .ok (.i2l, 1) := by decide +kernel
theorem dX1_quantileAt_151 : decode cX1_quantileAt 151 = .ok (.lconst 1, 1) := by decide +kernel
theorem dX1_quantileAt_152 : decode cX1_quantileAt 152 = .ok (.sipush 1000, 3) := by decide +kernel
theorem dX1_quantileAt_155 : decode cX1_quantileAt 155 = .ok (.iload_n 2, 1) := by decide +kernel
theorem dX1_quantileAt_156 : decode cX1_quantileAt 156 = .ok (.imul, 1) := by decide +kernel
theorem dX1_quantileAt_157 : decode cX1_quantileAt 157 = .ok (.i2l, 1) := by decide +kernel
theorem dX1_quantileAt_158 : decode cX1_quantileAt 158 = .ok (.iload_n 3, 1) := by decide +kernel
theorem dX1_quantileAt_159 : decode cX1_quantileAt 159 = .ok (.i2l, 1) := by decide +kernel
theorem dX1_quantileAt_160 : decode cX1_quantileAt 160 = .ok (.invokestatic 97, 3) := by decide +kernel
theorem dX1_quantileAt_163 : decode cX1_quantileAt 163 = .ok (.ireturn, 1) := by decide +kernel
theorem dX1_between_0 : decode cX1_between 0 = .ok (.lload 10, 2) := by decide +kernel
theorem dX1_between_2 : decode cX1_between 2 = .ok (.lload 4, 2) := by decide +kernel
theorem dX1_between_4 : decode cX1_between 4 = .ok (.lsub, 1) := by decide +kernel
theorem dX1_between_5 : decode cX1_between 5 = .ok (.lstore 14, 2) := by decide +kernel
theorem dX1_between_7 : decode cX1_between 7 = .ok (.lload_n 2, 1) := by decide +kernel
theorem dX1_between_8 : decode cX1_between 8 = .ok (.lload 8, 2) := by decide +kernel
theorem dX1_between_10 : decode cX1_between 10 = .ok (.lmul, 1) := by decide +kernel
theorem dX1_between_11 : decode cX1_between 11 = .ok (.lload 14, 2) := by decide +kernel
theorem dX1_between_13 : decode cX1_between 13 = .ok (.lmul, 1) := by decide +kernel
theorem dX1_between_14 : decode cX1_between 14 = .ok (.lstore 16, 2) := by decide +kernel
theorem dX1_between_16 : decode cX1_between 16 = .ok (.lload 16, 2) := by decide +kernel
theorem dX1_between_18 : decode cX1_between 18 = .ok (.lconst 0, 1) := by decide +kernel
theorem dX1_between_19 : decode cX1_between 19 = .ok (.lcmp, 1) := by decide +kernel
theorem dX1_between_20 : decode cX1_between 20 = .ok (.ifCond .gt 5, 3) := by decide +kernel
theorem dX1_between_23 : decode cX1_between 23 = .ok (.iconst 0, 1) := by decide +kernel
theorem dX1_between_24 : decode cX1_between 24 = .ok (.ireturn, 1) := by decide +kernel
theorem dX1_between_25 : decode cX1_between 25 = .ok (.lload_n 0, 1) := by decide +kernel
theorem dX1_between_26 : decode cX1_between 26 = .ok (.lload 8, 2) := by decide +kernel
theorem dX1_between_28 : decode cX1_between 28 = .ok (.lmul, 1) := by decide +kernel
theorem dX1_between_29 : decode cX1_between 29 = .ok (.lstore 18, 2) := by decide +kernel
theorem dX1_between_31 : decode cX1_between 31 = .ok (.lload 6, 2) := by decide +kernel
theorem dX1_between_33 : decode cX1_between 33 = .ok (.lload_n 2, 1) := by decide +kernel
theorem dX1_between_34 : decode cX1_between 34 = .ok (.lmul, 1) := by decide +kernel
theorem dX1_between_35 : decode cX1_between 35 = .ok (.lload 18, 2) := by decide +kernel
theorem dX1_between_37 : decode cX1_between 37 = .ok (.lsub, 1) := by decide +kernel
theorem dX1_between_38 : decode cX1_between 38 = .ok (.lstore 20, 2) := by decide +kernel
theorem dX1_between_40 : decode cX1_between 40 = .ok (.lload 18, 2) := by decide +kernel
theorem dX1_between_42 : decode cX1_between 42 = .ok (.lload 14, 2) := by decide +kernel
theorem dX1_between_44 : decode cX1_between 44 = .ok (.lmul, 1) := by decide +kernel
theorem dX1_between_45 : decode cX1_between 45 = .ok (.lload 20, 2) := by decide +kernel
theorem dX1_between_47 : decode cX1_between 47 = .ok (.lload 12, 2) := by decide +kernel
end
section
theorem dX1_between_49 : decode cX1_between 49 = .ok (.lload 4, 2) := by decide +kernel
theorem dX1_between_51 : decode cX1_between 51 = .ok (.lsub, 1) := by decide +kernel
theorem dX1_between_52 : decode cX1_between 52 = .ok (.lmul, 1) := by decide +kernel
theorem dX1_between_53 : decode cX1_between 53 = .ok (.ladd, 1) := by decide +kernel
theorem dX1_between_54 : decode cX1_between 54 = .ok (.lload 16, 2) := by decide +kernel
theorem dX1_between_56 : decode cX1_between 56 = .ok (.invokestatic 104, 3) := by decide +kernel
theorem dX1_between_59 : decode cX1_between 59 = .ok (.l2i, 1) := by decide +kernel
theorem dX1_between_60 : decode cX1_between 60 = .ok (.ireturn, 1) := by decide +kernel
theorem dX1_greatestQAtMost_0 : decode cX1_greatestQAtMost 0 = .ok (.iconst (-1), 1) := by decide +kernel
theorem dX1_greatestQAtMost_1 : decode cX1_greatestQAtMost 1 = .ok (.istore_n 2, 1) := by decide +kernel
theorem dX1_greatestQAtMost_2 : decode cX1_greatestQAtMost 2 = .ok (.sipush 512, 3) := by decide +kernel
theorem dX1_greatestQAtMost_5 : decode cX1_greatestQAtMost 5 = .ok (.istore_n 3, 1) := by decide +kernel
theorem dX1_greatestQAtMost_6 : decode cX1_greatestQAtMost 6 = .ok (.iload_n 3, 1) := by decide +kernel
theorem dX1_greatestQAtMost_7 : decode cX1_greatestQAtMost 7 = .ok (.ifCond .le 34, 3) := by decide +kernel
theorem dX1_greatestQAtMost_10 : decode cX1_greatestQAtMost 10 = .ok (.iload_n 2, 1) := by decide +kernel
theorem dX1_greatestQAtMost_11 : decode cX1_greatestQAtMost 11 = .ok (.iload_n 3, 1) := by decide +kernel
theorem dX1_greatestQAtMost_12 : decode cX1_greatestQAtMost 12 = .ok (.iadd, 1) := by decide +kernel
theorem dX1_greatestQAtMost_13 : decode cX1_greatestQAtMost 13 = .ok (.sipush 1000, 3) := by decide +kernel
theorem dX1_greatestQAtMost_16 : decode cX1_greatestQAtMost 16 = .ok (.if_icmp .gt 18, 3) := by decide +kernel
theorem dX1_greatestQAtMost_19 : decode cX1_greatestQAtMost 19 = .ok (.aload_n 0, 1) := by decide +kernel
theorem dX1_greatestQAtMost_20 : decode cX1_greatestQAtMost 20 = .ok (.iload_n 2, 1) := by decide +kernel
theorem dX1_greatestQAtMost_21 : decode cX1_greatestQAtMost 21 = .ok (.iload_n 3, 1) := by decide +kernel
theorem dX1_greatestQAtMost_22 : decode cX1_greatestQAtMost 22 = .ok (.iadd, 1) := by decide +kernel
theorem dX1_greatestQAtMost_23 : decode cX1_greatestQAtMost 23 = .ok (.invokevirtual 108, 3) := by decide +kernel
theorem dX1_greatestQAtMost_26 : decode cX1_greatestQAtMost 26 = .ok (.iload_n 1, 1) := by decide +kernel
theorem dX1_greatestQAtMost_27 : decode cX1_greatestQAtMost 27 = .ok (.if_icmp .gt 7, 3) := by decide +kernel
theorem dX1_greatestQAtMost_30 : decode cX1_greatestQAtMost 30 = .ok (.iload_n 2, 1) := by decide +kernel
theorem dX1_greatestQAtMost_31 : decode cX1_greatestQAtMost 31 = .ok (.iload_n 3, 1) := by decide +kernel
theorem dX1_greatestQAtMost_32 : decode cX1_greatestQAtMost 32 = .ok (.iadd, 1) := by decide +kernel
theorem dX1_greatestQAtMost_33 : decode cX1_greatestQAtMost 33 = .ok (.istore_n 2, 1) := by decide +kernel
theorem dX1_greatestQAtMost_34 : decode cX1_greatestQAtMost 34 = .ok (.iload_n 3, 1) := by decide +kernel
theorem dX1_greatestQAtMost_35 : decode cX1_greatestQAtMost 35 = .ok (.iconst 2, 1) := by decide +kernel
theorem dX1_greatestQAtMost_36 : decode cX1_greatestQAtMost 36 = .ok (.idiv, 1) := by decide +kernel
theorem dX1_greatestQAtMost_37 : decode cX1_greatestQAtMost 37 = .ok (.istore_n 3, 1) := by decide +kernel
theorem dX1_greatestQAtMost_38 : decode cX1_greatestQAtMost 38 = .ok (.goto (-32), 3) := by decide +kernel
theorem dX1_greatestQAtMost_41 : decode cX1_greatestQAtMost 41 = .ok (.iload_n 2, 1) := by decide +kernel
theorem dX1_greatestQAtMost_42 : decode cX1_greatestQAtMost 42 = .ok (.ireturn, 1) := by decide +kernel
theorem dX1_widthAt_0 : decode cX1_widthAt 0 = .ok (.iconst 0, 1) := by decide +kernel
theorem dX1_widthAt_1 : decode cX1_widthAt 1 = .ok (.istore_n 2, 1) := by decide +kernel
theorem dX1_widthAt_2 : decode cX1_widthAt 2 = .ok (.iconst 0, 1) := by decide +kernel
theorem dX1_widthAt_3 : decode cX1_widthAt 3 = .ok (.istore_n 3, 1) := by decide +kernel
theorem dX1_widthAt_4 : decode cX1_widthAt 4 = .ok (.iload_n 3, 1) := by decide +kernel
theorem dX1_widthAt_5 : decode cX1_widthAt 5 = .ok (.aload_n 0, 1) := by decide +kernel
theorem dX1_widthAt_6 : decode cX1_widthAt 6 = .ok (.invokevirtual 50, 3) := by decide +kernel
theorem dX1_widthAt_9 : decode cX1_widthAt 9 = .ok (.if_icmp .ge 43, 3) := by decide +kernel
theorem dX1_widthAt_12 : decode cX1_widthAt 12 = .ok (.iload_n 2, 1) := by decide +kernel
theorem dX1_widthAt_13 : decode cX1_widthAt 13 = .ok (.aload_n 0, 1) := by decide +kernel
theorem dX1_widthAt_14 : decode cX1_widthAt 14 = .ok (.getfield 14, 3) := by decide +kernel
theorem dX1_widthAt_17 : decode cX1_widthAt 17 = .ok (.iload_n 3, 1) := by decide +kernel
theorem dX1_widthAt_18 : decode cX1_widthAt 18 = .ok (.invokevirtual 40, 3) := by decide +kernel
theorem dX1_widthAt_21 : decode cX1_widthAt 21 = .ok (.iadd, 1) := by decide +kernel
theorem dX1_widthAt_22 : decode cX1_widthAt 22 = .ok (.istore_n 2, 1) := by decide +kernel
theorem dX1_widthAt_23 : decode cX1_widthAt 23 = .ok (.iload_n 2, 1) := by decide +kernel
theorem dX1_widthAt_24 : decode cX1_widthAt 24 = .ok (.iload_n 1, 1) := by decide +kernel
theorem dX1_widthAt_25 : decode cX1_widthAt 25 = .ok (.if_icmp .le 21, 3) := by decide +kernel
theorem dX1_widthAt_28 : decode cX1_widthAt 28 = .ok (.aload_n 0, 1) := by decide +kernel
theorem dX1_widthAt_29 : decode cX1_widthAt 29 = .ok (.getfield 26, 3) := by decide +kernel
theorem dX1_widthAt_32 : decode cX1_widthAt 32 = .ok (.iload_n 3, 1) := by decide +kernel
theorem dX1_widthAt_33 : decode cX1_widthAt 33 = .ok (.invokevirtual 40, 3) := by decide +kernel
theorem dX1_widthAt_36 : decode cX1_widthAt 36 = .ok (.aload_n 0, 1) := by decide +kernel
theorem dX1_widthAt_37 : decode cX1_widthAt 37 = .ok (.getfield 23, 3) := by decide +kernel
theorem dX1_widthAt_40 : decode cX1_widthAt 40 = .ok (.iload_n 3, 1) := by decide +kernel
theorem dX1_widthAt_41 : decode cX1_widthAt 41 = .ok (.invokevirtual 40, 3) := by decide +kernel
theorem dX1_widthAt_44 : decode cX1_widthAt 44 = .ok (.isub, 1) := by decide +kernel
theorem dX1_widthAt_45 : decode cX1_widthAt 45 = .ok (.ireturn, 1) := by decide +kernel
theorem dX1_widthAt_46 : decode cX1_widthAt 46 = .ok (.iinc 3 1, 3) := by decide +kernel
theorem dX1_widthAt_49 : decode cX1_widthAt 49 = .ok (.goto (-45), 3) := by decide +kernel
theorem dX1_widthAt_52 : decode cX1_widthAt 52 = .ok (.iconst 0, 1) := by decide +kernel
theorem dX1_widthAt_53 : decode cX1_widthAt 53 = .ok (.ireturn, 1) := by decide +kernel
theorem dX2_init_0 : decode cX2_init 0 = .ok (.aload_n 0, 1) := by decide +kernel
theorem dX2_init_1 : decode cX2_init 1 = .ok (.invokespecial 3, 3) := by decide +kernel
theorem dX2_init_4 : decode cX2_init 4 = .ok (.aload_n 0, 1) := by decide +kernel
theorem dX2_init_5 : decode cX2_init 5 = .ok (.iconst 4, 1) := by decide +kernel
theorem dX2_init_6 : decode cX2_init 6 = .ok (.anewarray 9, 3) := by decide +kernel
theorem dX2_init_9 : decode cX2_init 9 = .ok (.putfield 11, 3) := by decide +kernel
theorem dX2_init_12 : decode cX2_init 12 = .ok (.aload_n 0, 1) := by decide +kernel
theorem dX2_init_13 : decode cX2_init 13 = .ok (.iconst 0, 1) := by decide +kernel
theorem dX2_init_14 : decode cX2_init 14 = .ok (.putfield 17, 3) := by decide +kernel
theorem dX2_init_17 : decode cX2_init 17 = .ok (.iconst 0, 1) := by decide +kernel
theorem dX2_init_18 : decode cX2_init 18 = .ok (.istore_n 1, 1) := by decide +kernel
theorem dX2_init_19 : decode cX2_init 19 = .ok (.iload_n 1, 1) := by decide +kernel
theorem dX2_init_20 : decode cX2_init 20 = .ok (.aload_n 0, 1) := by decide +kernel
theorem dX2_init_21 : decode cX2_init 21 = .ok (.getfield 11, 3) := by decide +kernel
theorem dX2_init_24 : decode cX2_init 24 = .ok (.arraylength, 1) := by decide +kernel
theorem dX2_init_25 : decode cX2_init 25 = .ok (.if_icmp .ge 22, 3) := by decide +kernel
theorem dX2_init_28 : decode cX2_init 28 = .ok (.aload_n 0, 1) := by decide +kernel
theorem dX2_init_29 : decode cX2_init 29 = .ok (.getfield 11, 3) := by decide +kernel
theorem dX2_init_32 : decode cX2_init 32 = .ok (.iload_n 1, 1) := by decide +kernel
theorem dX2_init_33 : decode cX2_init 33 = .ok (.new 9, 3) := by decide +kernel
theorem dX2_init_36 : decode cX2_init 36 = .ok (.dup, 1) := by decide +kernel
theorem dX2_init_37 : decode cX2_init 37 = .ok (.invokespecial 21, 3) := by decide +kernel
theorem dX2_init_40 : decode cX2_init 40 = .ok (.aastore, 1) := by decide +kernel
theorem dX2_init_41 : decode cX2_init 41 = .ok (.iinc 1 1, 3) := by decide +kernel
theorem dX2_init_44 : decode cX2_init 44 = .ok (.goto (-25), 3) := by decide +kernel
theorem dX2_init_47 : decode cX2_init 47 = .ok (.return_, 1) := by decide +kernel
theorem dX2_size_0 : decode cX2_size 0 = .ok (.aload_n 0, 1) := by decide +kernel
theorem dX2_size_1 : decode cX2_size 1 = .ok (.getfield 17, 3) := by decide +kernel
theorem dX2_size_4 : decode cX2_size 4 = .ok (.ireturn, 1) := by decide +kernel
theorem dX2_record_0 : decode cX2_record 0 = .ok (.aload_n 0, 1) := by decide +kernel
theorem dX2_record_1 : decode cX2_record 1 = .ok (.getfield 17, 3) := by decide +kernel
theorem dX2_record_4 : decode cX2_record 4 = .ok (.aload_n 0, 1) := by decide +kernel
theorem dX2_record_5 : decode cX2_record 5 = .ok (.getfield 11, 3) := by decide +kernel
theorem dX2_record_8 : decode cX2_record 8 = .ok (.arraylength, 1) := by decide +kernel
theorem dX2_record_9 : decode cX2_record 9 = .ok (.if_icmp .lt 7, 3) := by decide +kernel
theorem dX2_record_12 : decode cX2_record 12 = .ok (.aload_n 0, 1) := by decide +kernel
theorem dX2_record_13 : decode cX2_record 13 = .ok (.invokevirtual 22, 3) := by decide +kernel
theorem dX2_record_16 : decode cX2_record 16 = .ok (.aload_n 0, 1) := by decide +kernel
theorem dX2_record_17 : decode cX2_record 17 = .ok (.aload_n 0, 1) := by decide +kernel
theorem dX2_record_18 : decode cX2_record 18 = .ok (.getfield 17, 3) := by decide +kernel
theorem dX2_record_21 : decode cX2_record 21 = .ok (.invokevirtual 25, 3) := by decide +kernel
theorem dX2_record_24 : decode cX2_record 24 = .ok (.astore_n 2, 1) := by decide +kernel
theorem dX2_record_25 : decode cX2_record 25 = .ok (.aload_n 2, 1) := by decide +kernel
theorem dX2_record_26 : decode cX2_record 26 = .ok (.ifnull 18, 3) := by decide +kernel
theorem dX2_record_29 : decode cX2_record 29 = .ok (.aload_n 2, 1) := by decide +kernel
theorem dX2_record_30 : decode cX2_record 30 = .ok (.aload_n 1, 1) := by decide +kernel
theorem dX2_record_31 : decode cX2_record 31 = .ok (.invokevirtual 29, 3) := by decide +kernel
theorem dX2_record_34 : decode cX2_record 34 = .ok (.aload_n 0, 1) := by decide +kernel
theorem dX2_record_35 : decode cX2_record 35 = .ok (.dup, 1) := by decide +kernel
theorem dX2_record_36 : decode cX2_record 36 = .ok (.getfield 17, 3) := by decide +kernel
theorem dX2_record_39 : decode cX2_record 39 = .ok (.iconst 1, 1) := by decide +kernel
theorem dX2_record_40 : decode cX2_record 40 = .ok (.iadd, 1) := by decide +kernel
theorem dX2_record_41 : decode cX2_record 41 = .ok (.putfield 17, 3) := by decide +kernel
theorem dX2_record_44 : decode cX2_record 44 = .ok (.return_, 1) := by decide +kernel
theorem dX2_restoreLatest_0 : decode cX2_restoreLatest 0 = .ok (.aload_n 0, 1) := by decide +kernel
theorem dX2_restoreLatest_1 : decode cX2_restoreLatest 1 = .ok (.aload_n 0, 1) := by decide +kernel
theorem dX2_restoreLatest_2 : decode cX2_restoreLatest 2 = .ok (.getfield 17, 3) := by decide +kernel
theorem dX2_restoreLatest_5 : decode cX2_restoreLatest 5 = .ok (.iconst 1, 1) := by decide +kernel
theorem dX2_restoreLatest_6 : decode cX2_restoreLatest 6 = .ok (.isub, 1) := by decide +kernel
theorem dX2_restoreLatest_7 : decode cX2_restoreLatest 7 = .ok (.invokevirtual 25, 3) := by decide +kernel
theorem dX2_restoreLatest_10 : decode cX2_restoreLatest 10 = .ok (.astore_n 2, 1) := by decide +kernel
theorem dX2_restoreLatest_11 : decode cX2_restoreLatest 11 = .ok (.aload_n 2, 1) := by decide +kernel
theorem dX2_restoreLatest_12 : decode cX2_restoreLatest 12 = .ok (.ifnull 18, 3) := by decide +kernel
theorem dX2_restoreLatest_15 : decode cX2_restoreLatest 15 = .ok (.aload_n 1, 1) := by decide +kernel
theorem dX2_restoreLatest_16 : decode cX2_restoreLatest 16 = .ok (.aload_n 2, 1) := by decide +kernel
theorem dX2_restoreLatest_17 : decode cX2_restoreLatest 17 = .ok (.invokevirtual 29, 3) := by decide +kernel
theorem dX2_restoreLatest_20 : decode cX2_restoreLatest 20 = .ok (.aload_n 0, 1) := by decide +kernel
theorem dX2_restoreLatest_21 : decode cX2_restoreLatest 21 = .ok (.dup, 1) := by decide +kernel
theorem dX2_restoreLatest_22 : decode cX2_restoreLatest 22 = .ok (.getfield 17, 3) := by decide +kernel
theorem dX2_restoreLatest_25 : decode cX2_restoreLatest 25 = .ok (.iconst 1, 1) := by decide +kernel
theorem dX2_restoreLatest_26 : decode cX2_restoreLatest 26 = .ok (.isub, 1) := by decide +kernel
theorem dX2_restoreLatest_27 : decode cX2_restoreLatest 27 = .ok (.putfield 17, 3) := by decide +kernel
theorem dX2_restoreLatest_30 : decode cX2_restoreLatest 30 = .ok (.return_, 1) := by decide +kernel
theorem dX2_dropOldest_0 : decode cX2_dropOldest 0 = .ok (.iconst 1, 1) := by decide +kernel
theorem dX2_dropOldest_1 : decode cX2_dropOldest 1 = .ok (.istore_n 1, 1) := by decide +kernel
theorem dX2_dropOldest_2 : decode cX2_dropOldest 2 = .ok (.iload_n 1, 1) := by decide +kernel
theorem dX2_dropOldest_3 : decode cX2_dropOldest 3 = .ok (.aload_n 0, 1) := by decide +kernel
theorem dX2_dropOldest_4 : decode cX2_dropOldest 4 = .ok (.getfield 11, 3) := by decide +kernel
theorem dX2_dropOldest_7 : decode cX2_dropOldest 7 = .ok (.arraylength, 1) := by decide +kernel
theorem dX2_dropOldest_8 : decode cX2_dropOldest 8 = .ok (.if_icmp .ge 39, 3) := by decide +kernel
theorem dX2_dropOldest_11 : decode cX2_dropOldest 11 = .ok (.aload_n 0, 1) := by decide +kernel
theorem dX2_dropOldest_12 : decode cX2_dropOldest 12 = .ok (.getfield 11, 3) := by decide +kernel
theorem dX2_dropOldest_15 : decode cX2_dropOldest 15 = .ok (.iload_n 1, 1) := by decide +kernel
theorem dX2_dropOldest_16 : decode cX2_dropOldest 16 = .ok (.iconst 1, 1) := by decide +kernel
theorem dX2_dropOldest_17 : decode cX2_dropOldest 17 = .ok (.isub, 1) := by decide +kernel
theorem dX2_dropOldest_18 : decode cX2_dropOldest 18 = .ok (.aaload, 1) := by decide +kernel
theorem dX2_dropOldest_19 : decode cX2_dropOldest 19 = .ok (.astore_n 2, 1) := by decide +kernel
theorem dX2_dropOldest_20 : decode cX2_dropOldest 20 = .ok (.aload_n 0, 1) := by decide +kernel
theorem dX2_dropOldest_21 : decode cX2_dropOldest 21 = .ok (.getfield 11, 3) := by decide +kernel
theorem dX2_dropOldest_24 : decode cX2_dropOldest 24 = .ok (.iload_n 1, 1) := by decide +kernel
theorem dX2_dropOldest_25 : decode cX2_dropOldest 25 = .ok (.iconst 1, 1) := by decide +kernel
theorem dX2_dropOldest_26 : decode cX2_dropOldest 26 = .ok (.isub, 1) := by decide +kernel
theorem dX2_dropOldest_27 : decode cX2_dropOldest 27 = .ok (.aload_n 0, 1) := by decide +kernel
theorem dX2_dropOldest_28 : decode cX2_dropOldest 28 = .ok (.getfield 11, 3) := by decide +kernel
theorem dX2_dropOldest_31 : decode cX2_dropOldest 31 = .ok (.iload_n 1, 1) := by decide +kernel
theorem dX2_dropOldest_32 : decode cX2_dropOldest 32 = .ok (.aaload, 1) := by decide +kernel
theorem dX2_dropOldest_33 : decode cX2_dropOldest 33 = .ok (.aastore, 1) := by decide +kernel
theorem dX2_dropOldest_34 : decode cX2_dropOldest 34 = .ok (.aload_n 0, 1) := by decide +kernel
theorem dX2_dropOldest_35 : decode cX2_dropOldest 35 = .ok (.getfield 11, 3) := by decide +kernel
theorem dX2_dropOldest_38 : decode cX2_dropOldest 38 = .ok (.iload_n 1, 1) := by decide +kernel
theorem dX2_dropOldest_39 : decode cX2_dropOldest 39 = .ok (.aload_n 2, 1) := by decide +kernel
theorem dX2_dropOldest_40 : decode cX2_dropOldest 40 = .ok (.aastore, 1) := by decide +kernel
theorem dX2_dropOldest_41 : decode cX2_dropOldest 41 = .ok (.iinc 1 1, 3) := by decide +kernel
theorem dX2_dropOldest_44 : decode cX2_dropOldest 44 = .ok (.goto (-42), 3) := by decide +kernel
theorem dX2_dropOldest_47 : decode cX2_dropOldest 47 = .ok (.aload_n 0, 1) := by decide +kernel
theorem dX2_dropOldest_48 : decode cX2_dropOldest 48 = .ok (.dup, 1) := by decide +kernel
theorem dX2_dropOldest_49 : decode cX2_dropOldest 49 = .ok (.getfield 17, 3) := by decide +kernel
theorem dX2_dropOldest_52 : decode cX2_dropOldest 52 = .ok (.iconst 1, 1) := by decide +kernel
theorem dX2_dropOldest_53 : decode cX2_dropOldest 53 = .ok (.isub, 1) := by decide +kernel
theorem dX2_dropOldest_54 : decode cX2_dropOldest 54 = .ok (.putfield 17, 3) := by decide +kernel
theorem dX2_dropOldest_57 : decode cX2_dropOldest 57 = .ok (.return_, 1) := by decide +kernel
theorem dX2_stateAt_0 : decode cX2_stateAt 0 = .ok (.iload_n 1, 1) := by decide +kernel
theorem dX2_stateAt_1 : decode cX2_stateAt 1 = .ok (.ifCond .lt 21, 3) := by decide +kernel
theorem dX2_stateAt_4 : decode cX2_stateAt 4 = .ok (.iload_n 1, 1) := by decide +kernel
theorem dX2_stateAt_5 : decode cX2_stateAt 5 = .ok (.aload_n 0, 1) := by decide +kernel
theorem dX2_stateAt_6 : decode cX2_stateAt 6 = .ok (.getfield 11, 3) := by decide +kernel
theorem dX2_stateAt_9 : decode cX2_stateAt 9 = .ok (.arraylength, 1) := by decide +kernel
theorem dX2_stateAt_10 : decode cX2_stateAt 10 = .ok (.if_icmp .ge 12, 3) := by decide +kernel
theorem dX2_stateAt_13 : decode cX2_stateAt 13 = .ok (.aload_n 0, 1) := by decide +kernel
theorem dX2_stateAt_14 : decode cX2_stateAt 14 = .ok (.getfield 11, 3) := by decide +kernel
theorem dX2_stateAt_17 : decode cX2_stateAt 17 = .ok (.iload_n 1, 1) := by decide +kernel
theorem dX2_stateAt_18 : decode cX2_stateAt 18 = .ok (.aaload, 1) := by decide +kernel
theorem dX2_stateAt_19 : decode cX2_stateAt 19 = .ok (.goto 4, 3) := by decide +kernel
theorem dX2_stateAt_22 : decode cX2_stateAt 22 = .ok (.aconst_null, 1) := by decide +kernel
theorem dX2_stateAt_23 : decode cX2_stateAt 23 = .ok (.areturn, 1) := by decide +kernel
theorem dX3_init_0 : decode cX3_init 0 = .ok (.aload_n 0, 1) := by decide +kernel
theorem dX3_init_1 : decode cX3_init 1 = .ok (.invokespecial 3, 3) := by decide +kernel
theorem dX3_init_4 : decode cX3_init 4 = .ok (.aload_n 0, 1) := by decide +kernel
theorem dX3_init_5 : decode cX3_init 5 = .ok (.new 9, 3) := by decide +kernel
theorem dX3_init_8 : decode cX3_init 8 = .ok (.dup, 1) := by decide +kernel
theorem dX3_init_9 : decode cX3_init 9 = .ok (.bipush 60, 2) := by decide +kernel
theorem dX3_init_11 : decode cX3_init 11 = .ok (.invokespecial 11, 3) := by decide +kernel
theorem dX3_init_14 : decode cX3_init 14 = .ok (.putfield 14, 3) := by decide +kernel
theorem dX3_init_17 : decode cX3_init 17 = .ok (.aload_n 0, 1) := by decide +kernel
theorem dX3_init_18 : decode cX3_init 18 = .ok (.iconst 0, 1) := by decide +kernel
theorem dX3_init_19 : decode cX3_init 19 = .ok (.putfield 20, 3) := by decide +kernel
theorem dX3_init_22 : decode cX3_init 22 = .ok (.aload_n 0, 1) := by decide +kernel
theorem dX3_init_23 : decode cX3_init 23 = .ok (.iconst 0, 1) := by decide +kernel
theorem dX3_init_24 : decode cX3_init 24 = .ok (.putfield 24, 3) := by decide +kernel
theorem dX3_init_27 : decode cX3_init 27 = .ok (.return_, 1) := by decide +kernel
theorem dX3_readFrom_0 : decode cX3_readFrom 0 = .ok (.aload_n 0, 1) := by decide +kernel
theorem dX3_readFrom_1 : decode cX3_readFrom 1 = .ok (.getfield 14, 3) := by decide +kernel
theorem dX3_readFrom_4 : decode cX3_readFrom 4 = .ok (.invokevirtual 27, 3) := by decide +kernel
theorem dX3_readFrom_7 : decode cX3_readFrom 7 = .ok (.aload_n 0, 1) := by decide +kernel
theorem dX3_readFrom_8 : decode cX3_readFrom 8 = .ok (.iload_n 2, 1) := by decide +kernel
theorem dX3_readFrom_9 : decode cX3_readFrom 9 = .ok (.putfield 24, 3) := by decide +kernel
theorem dX3_readFrom_12 : decode cX3_readFrom 12 = .ok (.aload_n 0, 1) := by decide +kernel
theorem dX3_readFrom_13 : decode cX3_readFrom 13 = .ok (.aload_n 1, 1) := by decide +kernel
theorem dX3_readFrom_14 : decode cX3_readFrom 14 = .ok (.aload_n 0, 1) := by decide +kernel
theorem dX3_readFrom_15 : decode cX3_readFrom 15 = .ok (.getfield 24, 3) := by decide +kernel
theorem dX3_readFrom_18 : decode cX3_readFrom 18 = .ok (.invokestatic 30, 3) := by decide +kernel
theorem dX3_readFrom_21 : decode cX3_readFrom 21 = .ok (.putfield 20, 3) := by decide +kernel
theorem dX3_readFrom_24 : decode cX3_readFrom 24 = .ok (.aload_n 0, 1) := by decide +kernel
theorem dX3_readFrom_25 : decode cX3_readFrom 25 = .ok (.getfield 20, 3) := by decide +kernel
theorem dX3_readFrom_28 : decode cX3_readFrom 28 = .ok (.ifCond .ge 5, 3) := by decide +kernel
theorem dX3_readFrom_31 : decode cX3_readFrom 31 = .ok (.iconst 0, 1) := by decide +kernel
theorem dX3_readFrom_32 : decode cX3_readFrom 32 = .ok (.ireturn, 1) := by decide +kernel
theorem dX3_readFrom_33 : decode cX3_readFrom 33 = .ok (.aload_n 0, 1) := by decide +kernel
theorem dX3_readFrom_34 : decode cX3_readFrom 34 = .ok (.dup, 1) := by decide +kernel
theorem dX3_readFrom_35 : decode cX3_readFrom 35 = .ok (.getfield 24, 3) := by decide +kernel
theorem dX3_readFrom_38 : decode cX3_readFrom 38 = .ok (.iconst 1, 1) := by decide +kernel
theorem dX3_readFrom_39 : decode cX3_readFrom 39 = .ok (.iadd, 1) := by decide +kernel
theorem dX3_readFrom_40 : decode cX3_readFrom 40 = .ok (.putfield 24, 3) := by decide +kernel
theorem dX3_readFrom_43 : decode cX3_readFrom 43 = .ok (.aload_n 1, 1) := by decide +kernel
theorem dX3_readFrom_44 : decode cX3_readFrom 44 = .ok (.aload_n 0, 1) := by decide +kernel
theorem dX3_readFrom_45 : decode cX3_readFrom 45 = .ok (.getfield 24, 3) := by decide +kernel
theorem dX3_readFrom_48 : decode cX3_readFrom 48 = .ok (.invokevirtual 34, 3) := by decide +kernel
theorem dX3_readFrom_51 : decode cX3_readFrom 51 = .ok (.bipush 58, 2) := by decide +kernel
theorem dX3_readFrom_53 : decode cX3_readFrom 53 = .ok (.if_icmp .ne 7, 3) := by decide +kernel
theorem dX3_readFrom_56 : decode cX3_readFrom 56 = .ok (.iconst 1, 1) := by decide +kernel
theorem dX3_readFrom_57 : decode cX3_readFrom 57 = .ok (.goto 4, 3) := by decide +kernel
theorem dX3_readFrom_60 : decode cX3_readFrom 60 = .ok (.iconst 0, 1) := by decide +kernel
theorem dX3_readFrom_61 : decode cX3_readFrom 61 = .ok (.istore_n 3, 1) := by decide +kernel
theorem dX3_readFrom_62 : decode cX3_readFrom 62 = .ok (.iconst 0, 1) := by decide +kernel
theorem dX3_readFrom_63 : decode cX3_readFrom 63 = .ok (.istore 4, 2) := by decide +kernel
theorem dX3_readFrom_65 : decode cX3_readFrom 65 = .ok (.iload_n 3, 1) := by decide +kernel
theorem dX3_readFrom_66 : decode cX3_readFrom 66 = .ok (.ifCond .eq 55, 3) := by decide +kernel
theorem dX3_readFrom_69 : decode cX3_readFrom 69 = .ok (.iload 4, 2) := by decide +kernel
theorem dX3_readFrom_71 : decode cX3_readFrom 71 = .ok (.bipush 60, 2) := by decide +kernel
theorem dX3_readFrom_73 : decode cX3_readFrom 73 = .ok (.if_icmp .ge 48, 3) := by decide +kernel
theorem dX3_readFrom_76 : decode cX3_readFrom 76 = .ok (.aload_n 0, 1) := by decide +kernel
theorem dX3_readFrom_77 : decode cX3_readFrom 77 = .ok (.dup, 1) := by decide +kernel
theorem dX3_readFrom_78 : decode cX3_readFrom 78 = .ok (.getfield 24, 3) := by decide +kernel
theorem dX3_readFrom_81 : decode cX3_readFrom 81 = .ok (.iconst 1, 1) := by decide +kernel
theorem dX3_readFrom_82 : decode cX3_readFrom 82 = .ok (.iadd, 1) := by decide +kernel
theorem dX3_readFrom_83 : decode cX3_readFrom 83 = .ok (.putfield 24, 3) := by decide +kernel
theorem dX3_readFrom_86 : decode cX3_readFrom 86 = .ok (.aload_n 0, 1) := by decide +kernel
theorem dX3_readFrom_87 : decode cX3_readFrom 87 = .ok (.aload_n 1, 1) := by decide +kernel
theorem dX3_readFrom_88 : decode cX3_readFrom 88 = .ok (.invokevirtual 38, 3) := by decide +kernel
theorem dX3_readFrom_91 : decode cX3_readFrom 91 = .ok (.ifCond .ne 5, 3) := by decide +kernel
theorem dX3_readFrom_94 : decode cX3_readFrom 94 = .ok (.iconst 0, 1) := by decide +kernel
theorem dX3_readFrom_95 : decode cX3_readFrom 95 = .ok (.ireturn, 1) := by decide +kernel
theorem dX3_readFrom_96 : decode cX3_readFrom 96 = .ok (.aload_n 1, 1) := by decide +kernel
theorem dX3_readFrom_97 : decode cX3_readFrom 97 = .ok (.aload_n 0, 1) := by decide +kernel
theorem dX3_readFrom_98 : decode cX3_readFrom 98 = .ok (.getfield 24, 3) := by decide +kernel
theorem dX3_readFrom_101 : decode cX3_readFrom 101 = .ok (.invokevirtual 34, 3) := by decide +kernel
theorem dX3_readFrom_104 : decode cX3_readFrom 104 = .ok (.bipush 44, 2) := by decide +kernel
theorem dX3_readFrom_106 : decode cX3_readFrom 106 = .ok (.if_icmp .ne 7, 3) := by decide +kernel
theorem dX3_readFrom_109 : decode cX3_readFrom 109 = .ok (.iconst 1, 1) := by decide +kernel
theorem dX3_readFrom_110 : decode cX3_readFrom 110 = .ok (.goto 4, 3) := by decide +kernel
theorem dX3_readFrom_113 : decode cX3_readFrom 113 = .ok (.iconst 0, 1) := by decide +kernel
theorem dX3_readFrom_114 : decode cX3_readFrom 114 = .ok (.istore_n 3, 1) := by decide +kernel
theorem dX3_readFrom_115 : decode cX3_readFrom 115 = .ok (.iinc 4 1, 3) := by decide +kernel
theorem dX3_readFrom_118 : decode cX3_readFrom 118 = .ok (.goto (-53), 3) := by decide +kernel
theorem dX3_readFrom_121 : decode cX3_readFrom 121 = .ok (.aload_n 0, 1) := by decide +kernel
theorem dX3_readFrom_122 : decode cX3_readFrom 122 = .ok (.getfield 14, 3) := by decide +kernel
theorem dX3_readFrom_125 : decode cX3_readFrom 125 = .ok (.invokevirtual 42, 3) := by decide +kernel
theorem dX3_readFrom_128 : decode cX3_readFrom 128 = .ok (.ifCond .eq 16, 3) := by decide +kernel
theorem dX3_readFrom_131 : decode cX3_readFrom 131 = .ok (.aload_n 1, 1) := by decide +kernel
theorem dX3_readFrom_132 : decode cX3_readFrom 132 = .ok (.aload_n 0, 1) := by decide +kernel
theorem dX3_readFrom_133 : decode cX3_readFrom 133 = .ok (.getfield 24, 3) := by decide +kernel
theorem dX3_readFrom_136 : decode cX3_readFrom 136 = .ok (.invokevirtual 34, 3) := by decide +kernel
theorem dX3_readFrom_139 : decode cX3_readFrom 139 = .ok (.bipush 59, 2) := by decide +kernel
theorem dX3_readFrom_141 : decode cX3_readFrom 141 = .ok (.if_icmp .eq 5, 3) := by decide +kernel
theorem dX3_readFrom_144 : decode cX3_readFrom 144 = .ok (.iconst 0, 1) := by decide +kernel
theorem dX3_readFrom_145 : decode cX3_readFrom 145 = .ok (.ireturn, 1) := by decide +kernel
theorem dX3_readFrom_146 : decode cX3_readFrom 146 = .ok (.aload_n 0, 1) := by decide +kernel
theorem dX3_readFrom_147 : decode cX3_readFrom 147 = .ok (.dup, 1) := by decide +kernel
theorem dX3_readFrom_148 : decode cX3_readFrom 148 = .ok (.getfield 24, 3) := by decide +kernel
theorem dX3_readFrom_151 : decode cX3_readFrom 151 = .ok (.iconst 1, 1) := by decide +kernel
theorem dX3_readFrom_152 : decode cX3_readFrom 152 = .ok (.iadd, 1) := by decide +kernel
theorem dX3_readFrom_153 : decode cX3_readFrom 153 = .ok (.putfield 24, 3) := by decide +kernel
theorem dX3_readFrom_156 : decode cX3_readFrom 156 = .ok (.iconst 1, 1) := by decide +kernel
theorem dX3_readFrom_157 : decode cX3_readFrom 157 = .ok (.ireturn, 1) := by decide +kernel
theorem dX3_readValue_0 : decode cX3_readValue 0 = .ok (.iconst 0, 1) := by decide +kernel
theorem dX3_readValue_1 : decode cX3_readValue 1 = .ok (.istore_n 2, 1) := by decide +kernel
theorem dX3_readValue_2 : decode cX3_readValue 2 = .ok (.iconst 0, 1) := by decide +kernel
theorem dX3_readValue_3 : decode cX3_readValue 3 = .ok (.istore_n 3, 1) := by decide +kernel
theorem dX3_readValue_4 : decode cX3_readValue 4 = .ok (.iload_n 3, 1) := by decide +kernel
theorem dX3_readValue_5 : decode cX3_readValue 5 = .ok (.iconst 4, 1) := by decide +kernel
theorem dX3_readValue_6 : decode cX3_readValue 6 = .ok (.if_icmp .ge 44, 3) := by decide +kernel
theorem dX3_readValue_9 : decode cX3_readValue 9 = .ok (.aload_n 1, 1) := by decide +kernel
theorem dX3_readValue_10 : decode cX3_readValue 10 = .ok (.aload_n 0, 1) := by decide +kernel
theorem dX3_readValue_11 : decode cX3_readValue 11 = .ok (.getfield 24, 3) := by decide +kernel
theorem dX3_readValue_14 : decode cX3_readValue 14 = .ok (.invokestatic 30, 3) := by decide +kernel
theorem dX3_readValue_17 : decode cX3_readValue 17 = .ok (.ifCond .lt 33, 3) := by decide +kernel
theorem dX3_readValue_20 : decode cX3_readValue 20 = .ok (.iload_n 2, 1) := by decide +kernel
theorem dX3_readValue_21 : decode cX3_readValue 21 = .ok (.bipush 10, 2) := by decide +kernel
theorem dX3_readValue_23 : decode cX3_readValue 23 = .ok (.imul, 1) := by decide +kernel
theorem dX3_readValue_24 : decode cX3_readValue 24 = .ok (.aload_n 1, 1) := by decide +kernel
theorem dX3_readValue_25 : decode cX3_readValue 25 = .ok (.aload_n 0, 1) := by decide +kernel
theorem dX3_readValue_26 : decode cX3_readValue 26 = .ok (.getfield 24, 3) := by decide +kernel
theorem dX3_readValue_29 : decode cX3_readValue 29 = .ok (.invokestatic 30, 3) := by decide +kernel
theorem dX3_readValue_32 : decode cX3_readValue 32 = .ok (.iadd, 1) := by decide +kernel
theorem dX3_readValue_33 : decode cX3_readValue 33 = .ok (.istore_n 2, 1) := by decide +kernel
theorem dX3_readValue_34 : decode cX3_readValue 34 = .ok (.aload_n 0, 1) := by decide +kernel
theorem dX3_readValue_35 : decode cX3_readValue 35 = .ok (.dup, 1) := by decide +kernel
theorem dX3_readValue_36 : decode cX3_readValue 36 = .ok (.getfield 24, 3) := by decide +kernel
theorem dX3_readValue_39 : decode cX3_readValue 39 = .ok (.iconst 1, 1) := by decide +kernel
theorem dX3_readValue_40 : decode cX3_readValue 40 = .ok (.iadd, 1) := by decide +kernel
theorem dX3_readValue_41 : decode cX3_readValue 41 = .ok (.putfield 24, 3) := by decide +kernel
theorem dX3_readValue_44 : decode cX3_readValue 44 = .ok (.iinc 3 1, 3) := by decide +kernel
theorem dX3_readValue_47 : decode cX3_readValue 47 = .ok (.goto (-43), 3) := by decide +kernel
theorem dX3_readValue_50 : decode cX3_readValue 50 = .ok (.iload_n 3, 1) := by decide +kernel
theorem dX3_readValue_51 : decode cX3_readValue 51 = .ok (.ifCond .ne 5, 3) := by decide +kernel
theorem dX3_readValue_54 : decode cX3_readValue 54 = .ok (.iconst 0, 1) := by decide +kernel
theorem dX3_readValue_55 : decode cX3_readValue 55 = .ok (.ireturn, 1) := by decide +kernel
theorem dX3_readValue_56 : decode cX3_readValue 56 = .ok (.aload_n 0, 1) := by decide +kernel
theorem dX3_readValue_57 : decode cX3_readValue 57 = .ok (.getfield 14, 3) := by decide +kernel
theorem dX3_readValue_60 : decode cX3_readValue 60 = .ok (.iload_n 2, 1) := by decide +kernel
theorem dX3_readValue_61 : decode cX3_readValue 61 = .ok (.invokevirtual 46, 3) := by decide +kernel
theorem dX3_readValue_64 : decode cX3_readValue 64 = .ok (.iconst 1, 1) := by decide +kernel
theorem dX3_readValue_65 : decode cX3_readValue 65 = .ok (.ireturn, 1) := by decide +kernel
theorem dX3_digitAt_0 : decode cX3_digitAt 0 = .ok (.aload_n 0, 1) := by decide +kernel
theorem dX3_digitAt_1 : decode cX3_digitAt 1 = .ok (.iload_n 1, 1) := by decide +kernel
theorem dX3_digitAt_2 : decode cX3_digitAt 2 = .ok (.invokevirtual 34, 3) := by decide +kernel
theorem dX3_digitAt_5 : decode cX3_digitAt 5 = .ok (.istore_n 2, 1) := by decide +kernel
theorem dX3_digitAt_6 : decode cX3_digitAt 6 = .ok (.iload_n 2, 1) := by decide +kernel
theorem dX3_digitAt_7 : decode cX3_digitAt 7 = .ok (.bipush 48, 2) := by decide +kernel
theorem dX3_digitAt_9 : decode cX3_digitAt 9 = .ok (.if_icmp .lt 16, 3) := by decide +kernel
theorem dX3_digitAt_12 : decode cX3_digitAt 12 = .ok (.iload_n 2, 1) := by decide +kernel
theorem dX3_digitAt_13 : decode cX3_digitAt 13 = .ok (.bipush 57, 2) := by decide +kernel
theorem dX3_digitAt_15 : decode cX3_digitAt 15 = .ok (.if_icmp .gt 10, 3) := by decide +kernel
theorem dX3_digitAt_18 : decode cX3_digitAt 18 = .ok (.iload_n 2, 1) := by decide +kernel
theorem dX3_digitAt_19 : decode cX3_digitAt 19 = .ok (.bipush 48, 2) := by decide +kernel
theorem dX3_digitAt_21 : decode cX3_digitAt 21 = .ok (.isub, 1) := by decide +kernel
theorem dX3_digitAt_22 : decode cX3_digitAt 22 = .ok (.goto 4, 3) := by decide +kernel
theorem dX3_digitAt_25 : decode cX3_digitAt 25 = .ok (.iconst (-1), 1) := by decide +kernel
theorem dX3_digitAt_26 : decode cX3_digitAt 26 = .ok (.ireturn, 1) := by decide +kernel
theorem dX4_init_0 : decode cX4_init 0 = .ok (.aload_n 0, 1) := by decide +kernel
theorem dX4_init_1 : decode cX4_init 1 = .ok (.invokespecial 1, 3) := by decide +kernel
theorem dX4_init_4 : decode cX4_init 4 = .ok (.aload_n 0, 1) := by decide +kernel
theorem dX4_init_5 : decode cX4_init 5 = .ok (.iload_n 1, 1) := by decide +kernel
theorem dX4_init_6 : decode cX4_init 6 = .ok (.iconst 0, 1) := by decide +kernel
theorem dX4_init_7 : decode cX4_init 7 = .ok (.invokestatic 7, 3) := by decide +kernel
theorem dX4_init_10 : decode cX4_init 10 = .ok (.newarray .int, 2) := by decide +kernel
theorem dX4_init_12 : decode cX4_init 12 = .ok (.putfield 13, 3) := by decide +kernel
theorem dX4_init_15 : decode cX4_init 15 = .ok (.aload_n 0, 1) := by decide +kernel
theorem dX4_init_16 : decode cX4_init 16 = .ok (.iconst 0, 1) := by decide +kernel
theorem dX4_init_17 : decode cX4_init 17 = .ok (.putfield 19, 3) := by decide +kernel
theorem dX4_init_20 : decode cX4_init 20 = .ok (.return_, 1) := by decide +kernel
theorem dX4_length_0 : decode cX4_length 0 = .ok (.aload_n 0, 1) := by decide +kernel
theorem dX4_length_1 : decode cX4_length 1 = .ok (.getfield 19, 3) := by decide +kernel
theorem dX4_length_4 : decode cX4_length 4 = .ok (.ireturn, 1) := by decide +kernel
theorem dX4_at_0 : decode cX4_at 0 = .ok (.iload_n 1, 1) := by decide +kernel
theorem dX4_at_1 : decode cX4_at 1 = .ok (.ifCond .lt 20, 3) := by decide +kernel
theorem dX4_at_4 : decode cX4_at 4 = .ok (.iload_n 1, 1) := by decide +kernel
theorem dX4_at_5 : decode cX4_at 5 = .ok (.aload_n 0, 1) := by decide +kernel
theorem dX4_at_6 : decode cX4_at 6 = .ok (.getfield 19, 3) := by decide +kernel
theorem dX4_at_9 : decode cX4_at 9 = .ok (.if_icmp .ge 12, 3) := by decide +kernel
theorem dX4_at_12 : decode cX4_at 12 = .ok (.aload_n 0, 1) := by decide +kernel
theorem dX4_at_13 : decode cX4_at 13 = .ok (.getfield 13, 3) := by decide +kernel
theorem dX4_at_16 : decode cX4_at 16 = .ok (.iload_n 1, 1) := by decide +kernel
theorem dX4_at_17 : decode cX4_at 17 = .ok (.iaload, 1) := by decide +kernel
theorem dX4_at_18 : decode cX4_at 18 = .ok (.goto 4, 3) := by decide +kernel
theorem dX4_at_21 : decode cX4_at 21 = .ok (.iconst 0, 1) := by decide +kernel
theorem dX4_at_22 : decode cX4_at 22 = .ok (.ireturn, 1) := by decide +kernel
theorem dX4_put_0 : decode cX4_put 0 = .ok (.iload_n 1, 1) := by decide +kernel
theorem dX4_put_1 : decode cX4_put 1 = .ok (.ifCond .lt 18, 3) := by decide +kernel
theorem dX4_put_4 : decode cX4_put 4 = .ok (.iload_n 1, 1) := by decide +kernel
theorem dX4_put_5 : decode cX4_put 5 = .ok (.aload_n 0, 1) := by decide +kernel
theorem dX4_put_6 : decode cX4_put 6 = .ok (.getfield 19, 3) := by decide +kernel
theorem dX4_put_9 : decode cX4_put 9 = .ok (.if_icmp .ge 10, 3) := by decide +kernel
theorem dX4_put_12 : decode cX4_put 12 = .ok (.aload_n 0, 1) := by decide +kernel
theorem dX4_put_13 : decode cX4_put 13 = .ok (.getfield 13, 3) := by decide +kernel
theorem dX4_put_16 : decode cX4_put 16 = .ok (.iload_n 1, 1) := by decide +kernel
theorem dX4_put_17 : decode cX4_put 17 = .ok (.iload_n 2, 1) := by decide +kernel
theorem dX4_put_18 : decode cX4_put 18 = .ok (.iastore, 1) := by decide +kernel
theorem dX4_put_19 : decode cX4_put 19 = .ok (.return_, 1) := by decide +kernel
theorem dX4_append_0 : decode cX4_append 0 = .ok (.aload_n 0, 1) := by decide +kernel
theorem dX4_append_1 : decode cX4_append 1 = .ok (.getfield 19, 3) := by decide +kernel
theorem dX4_append_4 : decode cX4_append 4 = .ok (.aload_n 0, 1) := by decide +kernel
theorem dX4_append_5 : decode cX4_append 5 = .ok (.getfield 13, 3) := by decide +kernel
theorem dX4_append_8 : decode cX4_append 8 = .ok (.arraylength, 1) := by decide +kernel
theorem dX4_append_9 : decode cX4_append 9 = .ok (.if_icmp .ge 23, 3) := by decide +kernel
theorem dX4_append_12 : decode cX4_append 12 = .ok (.aload_n 0, 1) := by decide +kernel
theorem dX4_append_13 : decode cX4_append 13 = .ok (.getfield 13, 3) := by decide +kernel
theorem dX4_append_16 : decode cX4_append 16 = .ok (.aload_n 0, 1) := by decide +kernel
theorem dX4_append_17 : decode cX4_append 17 = .ok (.getfield 19, 3) := by decide +kernel
theorem dX4_append_20 : decode cX4_append 20 = .ok (.iload_n 1, 1) := by decide +kernel
theorem dX4_append_21 : decode cX4_append 21 = .ok (.iastore, 1) := by decide +kernel
theorem dX4_append_22 : decode cX4_append 22 = .ok (.aload_n 0, 1) := by decide +kernel
theorem dX4_append_23 : decode cX4_append 23 = .ok (.dup, 1) := by decide +kernel
theorem dX4_append_24 : decode cX4_append 24 = .ok (.getfield 19, 3) := by decide +kernel
theorem dX4_append_27 : decode cX4_append 27 = .ok (.iconst 1, 1) := by decide +kernel
theorem dX4_append_28 : decode cX4_append 28 = .ok (.iadd, 1) := by decide +kernel
theorem dX4_append_29 : decode cX4_append 29 = .ok (.putfield 19, 3) := by decide +kernel
theorem dX4_append_32 : decode cX4_append 32 = .ok (.return_, 1) := by decide +kernel
theorem dX4_appendAll_0 : decode cX4_appendAll 0 = .ok (.iconst 0, 1) := by decide +kernel
theorem dX4_appendAll_1 : decode cX4_appendAll 1 = .ok (.istore_n 2, 1) := by decide +kernel
theorem dX4_appendAll_2 : decode cX4_appendAll 2 = .ok (.iload_n 2, 1) := by decide +kernel
theorem dX4_appendAll_3 : decode cX4_appendAll 3 = .ok (.aload_n 1, 1) := by decide +kernel
theorem dX4_appendAll_4 : decode cX4_appendAll 4 = .ok (.getfield 19, 3) := by decide +kernel
theorem dX4_appendAll_7 : decode cX4_appendAll 7 = .ok (.if_icmp .ge 18, 3) := by decide +kernel
theorem dX4_appendAll_10 : decode cX4_appendAll 10 = .ok (.aload_n 0, 1) := by decide +kernel
theorem dX4_appendAll_11 : decode cX4_appendAll 11 = .ok (.aload_n 1, 1) := by decide +kernel
theorem dX4_appendAll_12 : decode cX4_appendAll 12 = .ok (.iload_n 2, 1) := by decide +kernel
theorem dX4_appendAll_13 : decode cX4_appendAll 13 = .ok (.invokevirtual 23, 3) := by decide +kernel
theorem dX4_appendAll_16 : decode cX4_appendAll 16 = .ok (.invokevirtual 27, 3) := by decide +kernel
theorem dX4_appendAll_19 : decode cX4_appendAll 19 = .ok (.iinc 2 1, 3) := by decide +kernel
theorem dX4_appendAll_22 : decode cX4_appendAll 22 = .ok (.goto (-20), 3) := by decide +kernel
theorem dX4_appendAll_25 : decode cX4_appendAll 25 = .ok (.return_, 1) := by decide +kernel
theorem dX4_exchange_0 : decode cX4_exchange 0 = .ok (.iload_n 1, 1) := by decide +kernel
theorem dX4_exchange_1 : decode cX4_exchange 1 = .ok (.ifCond .lt 49, 3) := by decide +kernel
theorem dX4_exchange_4 : decode cX4_exchange 4 = .ok (.iload_n 1, 1) := by decide +kernel
theorem dX4_exchange_5 : decode cX4_exchange 5 = .ok (.aload_n 0, 1) := by decide +kernel
theorem dX4_exchange_6 : decode cX4_exchange 6 = .ok (.getfield 19, 3) := by decide +kernel
theorem dX4_exchange_9 : decode cX4_exchange 9 = .ok (.if_icmp .ge 41, 3) := by decide +kernel
theorem dX4_exchange_12 : decode cX4_exchange 12 = .ok (.iload_n 2, 1) := by decide +kernel
theorem dX4_exchange_13 : decode cX4_exchange 13 = .ok (.ifCond .lt 37, 3) := by decide +kernel
theorem dX4_exchange_16 : decode cX4_exchange 16 = .ok (.iload_n 2, 1) := by decide +kernel
theorem dX4_exchange_17 : decode cX4_exchange 17 = .ok (.aload_n 0, 1) := by decide +kernel
theorem dX4_exchange_18 : decode cX4_exchange 18 = .ok (.getfield 19, 3) := by decide +kernel
theorem dX4_exchange_21 : decode cX4_exchange 21 = .ok (.if_icmp .ge 29, 3) := by decide +kernel
theorem dX4_exchange_24 : decode cX4_exchange 24 = .ok (.aload_n 0, 1) := by decide +kernel
theorem dX4_exchange_25 : decode cX4_exchange 25 = .ok (.getfield 13, 3) := by decide +kernel
theorem dX4_exchange_28 : decode cX4_exchange 28 = .ok (.iload_n 1, 1) := by decide +kernel
theorem dX4_exchange_29 : decode cX4_exchange 29 = .ok (.iaload, 1) := by decide +kernel
theorem dX4_exchange_30 : decode cX4_exchange 30 = .ok (.istore_n 3, 1) := by decide +kernel
theorem dX4_exchange_31 : decode cX4_exchange 31 = .ok (.aload_n 0, 1) := by decide +kernel
theorem dX4_exchange_32 : decode cX4_exchange 32 = .ok (.getfield 13, 3) := by decide +kernel
theorem dX4_exchange_35 : decode cX4_exchange 35 = .ok (.iload_n 1, 1) := by decide +kernel
theorem dX4_exchange_36 : decode cX4_exchange 36 = .ok (.aload_n 0, 1) := by decide +kernel
theorem dX4_exchange_37 : decode cX4_exchange 37 = .ok (.getfield 13, 3) := by decide +kernel
theorem dX4_exchange_40 : decode cX4_exchange 40 = .ok (.iload_n 2, 1) := by decide +kernel
theorem dX4_exchange_41 : decode cX4_exchange 41 = .ok (.iaload, 1) := by decide +kernel
theorem dX4_exchange_42 : decode cX4_exchange 42 = .ok (.iastore, 1) := by decide +kernel
theorem dX4_exchange_43 : decode cX4_exchange 43 = .ok (.aload_n 0, 1) := by decide +kernel
theorem dX4_exchange_44 : decode cX4_exchange 44 = .ok (.getfield 13, 3) := by decide +kernel
theorem dX4_exchange_47 : decode cX4_exchange 47 = .ok (.iload_n 2, 1) := by decide +kernel
theorem dX4_exchange_48 : decode cX4_exchange 48 = .ok (.iload_n 3, 1) := by decide +kernel
theorem dX4_exchange_49 : decode cX4_exchange 49 = .ok (.iastore, 1) := by decide +kernel
theorem dX4_exchange_50 : decode cX4_exchange 50 = .ok (.return_, 1) := by decide +kernel
theorem dX4_insertInOrder_0 : decode cX4_insertInOrder 0 = .ok (.aload_n 0, 1) := by decide +kernel
theorem dX4_insertInOrder_1 : decode cX4_insertInOrder 1 = .ok (.iload_n 1, 1) := by decide +kernel
theorem dX4_insertInOrder_2 : decode cX4_insertInOrder 2 = .ok (.invokevirtual 27, 3) := by decide +kernel
theorem dX4_insertInOrder_5 : decode cX4_insertInOrder 5 = .ok (.aload_n 0, 1) := by decide +kernel
theorem dX4_insertInOrder_6 : decode cX4_insertInOrder 6 = .ok (.getfield 19, 3) := by decide +kernel
theorem dX4_insertInOrder_9 : decode cX4_insertInOrder 9 = .ok (.iconst 1, 1) := by decide +kernel
theorem dX4_insertInOrder_10 : decode cX4_insertInOrder 10 = .ok (.isub, 1) := by decide +kernel
theorem dX4_insertInOrder_11 : decode cX4_insertInOrder 11 = .ok (.istore_n 2, 1) := by decide +kernel
theorem dX4_insertInOrder_12 : decode cX4_insertInOrder 12 = .ok (.iload_n 2, 1) := by decide +kernel
theorem dX4_insertInOrder_13 : decode cX4_insertInOrder 13 = .ok (.ifCond .le 32, 3) := by decide +kernel
theorem dX4_insertInOrder_16 : decode cX4_insertInOrder 16 = .ok (.aload_n 0, 1) := by decide +kernel
theorem dX4_insertInOrder_17 : decode cX4_insertInOrder 17 = .ok (.iload_n 2, 1) := by decide +kernel
theorem dX4_insertInOrder_18 : decode cX4_insertInOrder 18 = .ok (.iconst 1, 1) := by decide +kernel
theorem dX4_insertInOrder_19 : decode cX4_insertInOrder 19 = .ok (.isub, 1) := by decide +kernel
theorem dX4_insertInOrder_20 : decode cX4_insertInOrder 20 = .ok (.invokevirtual 23, 3) := by decide +kernel
theorem dX4_insertInOrder_23 : decode cX4_insertInOrder 23 = .ok (.aload_n 0, 1) := by decide +kernel
theorem dX4_insertInOrder_24 : decode cX4_insertInOrder 24 = .ok (.iload_n 2, 1) := by decide +kernel
theorem dX4_insertInOrder_25 : decode cX4_insertInOrder 25 = .ok (.invokevirtual 23, 3) := by decide +kernel
theorem dX4_insertInOrder_28 : decode cX4_insertInOrder 28 = .ok (.if_icmp .le 17, 3) := by decide +kernel
theorem dX4_insertInOrder_31 : decode cX4_insertInOrder 31 = .ok (.aload_n 0, 1) := by decide +kernel
theorem dX4_insertInOrder_32 : decode cX4_insertInOrder 32 = .ok (.iload_n 2, 1) := by decide +kernel
theorem dX4_insertInOrder_33 : decode cX4_insertInOrder 33 = .ok (.iconst 1, 1) := by decide +kernel
theorem dX4_insertInOrder_34 : decode cX4_insertInOrder 34 = .ok (.isub, 1) := by decide +kernel
theorem dX4_insertInOrder_35 : decode cX4_insertInOrder 35 = .ok (.iload_n 2, 1) := by decide +kernel
theorem dX4_insertInOrder_36 : decode cX4_insertInOrder 36 = .ok (.invokevirtual 31, 3) := by decide +kernel
theorem dX4_insertInOrder_39 : decode cX4_insertInOrder 39 = .ok (.iinc 2 (-1), 3) := by decide +kernel
theorem dX4_insertInOrder_42 : decode cX4_insertInOrder 42 = .ok (.goto (-30), 3) := by decide +kernel
theorem dX4_insertInOrder_45 : decode cX4_insertInOrder 45 = .ok (.return_, 1) := by decide +kernel
theorem dX4_shortenTo_0 : decode cX4_shortenTo 0 = .ok (.iload_n 1, 1) := by decide +kernel
theorem dX4_shortenTo_1 : decode cX4_shortenTo 1 = .ok (.ifCond .lt 16, 3) := by decide +kernel
theorem dX4_shortenTo_4 : decode cX4_shortenTo 4 = .ok (.iload_n 1, 1) := by decide +kernel
theorem dX4_shortenTo_5 : decode cX4_shortenTo 5 = .ok (.aload_n 0, 1) := by decide +kernel
theorem dX4_shortenTo_6 : decode cX4_shortenTo 6 = .ok (.getfield 19, 3) := by decide +kernel
theorem dX4_shortenTo_9 : decode cX4_shortenTo 9 = .ok (.if_icmp .ge 8, 3) := by decide +kernel
theorem dX4_shortenTo_12 : decode cX4_shortenTo 12 = .ok (.aload_n 0, 1) := by decide +kernel
theorem dX4_shortenTo_13 : decode cX4_shortenTo 13 = .ok (.iload_n 1, 1) := by decide +kernel
theorem dX4_shortenTo_14 : decode cX4_shortenTo 14 = .ok (.putfield 19, 3) := by decide +kernel
theorem dX4_shortenTo_17 : decode cX4_shortenTo 17 = .ok (.return_, 1) := by decide +kernel
theorem dX4_empty_0 : decode cX4_empty 0 = .ok (.aload_n 0, 1) := by decide +kernel
theorem dX4_empty_1 : decode cX4_empty 1 = .ok (.iconst 0, 1) := by decide +kernel
theorem dX4_empty_2 : decode cX4_empty 2 = .ok (.putfield 19, 3) := by decide +kernel
theorem dX4_empty_5 : decode cX4_empty 5 = .ok (.return_, 1) := by decide +kernel
theorem dX4_copyFrom_0 : decode cX4_copyFrom 0 = .ok (.aload_n 0, 1) := by decide +kernel
theorem dX4_copyFrom_1 : decode cX4_copyFrom 1 = .ok (.aload_n 1, 1) := by decide +kernel
theorem dX4_copyFrom_2 : decode cX4_copyFrom 2 = .ok (.getfield 19, 3) := by decide +kernel
theorem dX4_copyFrom_5 : decode cX4_copyFrom 5 = .ok (.aload_n 0, 1) := by decide +kernel
theorem dX4_copyFrom_6 : decode cX4_copyFrom 6 = .ok (.getfield 13, 3) := by decide +kernel
theorem dX4_copyFrom_9 : decode cX4_copyFrom 9 = .ok (.arraylength, 1) := by decide +kernel
theorem dX4_copyFrom_10 : decode cX4_copyFrom 10 = .ok (.invokestatic 35, 3) := by decide +kernel
theorem dX4_copyFrom_13 : decode cX4_copyFrom 13 = .ok (.putfield 19, 3) := by decide +kernel
theorem dX4_copyFrom_16 : decode cX4_copyFrom 16 = .ok (.aload_n 1, 1) := by decide +kernel
theorem dX4_copyFrom_17 : decode cX4_copyFrom 17 = .ok (.getfield 13, 3) := by decide +kernel
theorem dX4_copyFrom_20 : decode cX4_copyFrom 20 = .ok (.iconst 0, 1) := by decide +kernel
theorem dX4_copyFrom_21 : decode cX4_copyFrom 21 = .ok (.aload_n 0, 1) := by decide +kernel
theorem dX4_copyFrom_22 : decode cX4_copyFrom 22 = .ok (.getfield 13, 3) := by decide +kernel
theorem dX4_copyFrom_25 : decode cX4_copyFrom 25 = .ok (.iconst 0, 1) := by decide +kernel
theorem dX4_copyFrom_26 : decode cX4_copyFrom 26 = .ok (.aload_n 0, 1) := by decide +kernel
theorem dX4_copyFrom_27 : decode cX4_copyFrom 27 = .ok (.getfield 19, 3) := by decide +kernel
theorem dX4_copyFrom_30 : decode cX4_copyFrom 30 = .ok (.invokestatic 38, 3) := by decide +kernel
theorem dX4_copyFrom_33 : decode cX4_copyFrom 33 = .ok (.return_, 1) := by decide +kernel
theorem dX4_total_0 : decode cX4_total 0 = .ok (.iconst 0, 1) := by decide +kernel
theorem dX4_total_1 : decode cX4_total 1 = .ok (.istore_n 1, 1) := by decide +kernel
theorem dX4_total_2 : decode cX4_total 2 = .ok (.iconst 0, 1) := by decide +kernel
theorem dX4_total_3 : decode cX4_total 3 = .ok (.istore_n 2, 1) := by decide +kernel
theorem dX4_total_4 : decode cX4_total 4 = .ok (.iload_n 2, 1) := by decide +kernel
theorem dX4_total_5 : decode cX4_total 5 = .ok (.aload_n 0, 1) := by decide +kernel
theorem dX4_total_6 : decode cX4_total 6 = .ok (.getfield 19, 3) := by decide +kernel
theorem dX4_total_9 : decode cX4_total 9 = .ok (.if_icmp .ge 17, 3) := by decide +kernel
theorem dX4_total_12 : decode cX4_total 12 = .ok (.iload_n 1, 1) := by decide +kernel
theorem dX4_total_13 : decode cX4_total 13 = .ok (.aload_n 0, 1) := by decide +kernel
theorem dX4_total_14 : decode cX4_total 14 = .ok (.iload_n 2, 1) := by decide +kernel
theorem dX4_total_15 : decode cX4_total 15 = .ok (.invokevirtual 23, 3) := by decide +kernel
theorem dX4_total_18 : decode cX4_total 18 = .ok (.iadd, 1) := by decide +kernel
theorem dX4_total_19 : decode cX4_total 19 = .ok (.istore_n 1, 1) := by decide +kernel
theorem dX4_total_20 : decode cX4_total 20 = .ok (.iinc 2 1, 3) := by decide +kernel
theorem dX4_total_23 : decode cX4_total 23 = .ok (.goto (-19), 3) := by decide +kernel
theorem dX4_total_26 : decode cX4_total 26 = .ok (.iload_n 1, 1) := by decide +kernel
theorem dX4_total_27 : decode cX4_total 27 = .ok (.ireturn, 1) := by decide +kernel
theorem dX4_least_0 : decode cX4_least 0 = .ok (.ldc 46, 2) := by decide +kernel
theorem dX4_least_2 : decode cX4_least 2 = .ok (.istore_n 1, 1) := by decide +kernel
theorem dX4_least_3 : decode cX4_least 3 = .ok (.iconst 0, 1) := by decide +kernel
theorem dX4_least_4 : decode cX4_least 4 = .ok (.istore_n 2, 1) := by decide +kernel
theorem dX4_least_5 : decode cX4_least 5 = .ok (.iload_n 2, 1) := by decide +kernel
theorem dX4_least_6 : decode cX4_least 6 = .ok (.aload_n 0, 1) := by decide +kernel
theorem dX4_least_7 : decode cX4_least 7 = .ok (.getfield 19, 3) := by decide +kernel
theorem dX4_least_10 : decode cX4_least 10 = .ok (.if_icmp .ge 19, 3) := by decide +kernel
theorem dX4_least_13 : decode cX4_least 13 = .ok (.iload_n 1, 1) := by decide +kernel
theorem dX4_least_14 : decode cX4_least 14 = .ok (.aload_n 0, 1) := by decide +kernel
theorem dX4_least_15 : decode cX4_least 15 = .ok (.iload_n 2, 1) := by decide +kernel
theorem dX4_least_16 : decode cX4_least 16 = .ok (.invokevirtual 23, 3) := by decide +kernel
theorem dX4_least_19 : decode cX4_least 19 = .ok (.invokestatic 35, 3) := by decide +kernel
theorem dX4_least_22 : decode cX4_least 22 = .ok (.istore_n 1, 1) := by decide +kernel
theorem dX4_least_23 : decode cX4_least 23 = .ok (.iinc 2 1, 3) := by decide +kernel
theorem dX4_least_26 : decode cX4_least 26 = .ok (.goto (-21), 3) := by decide +kernel
theorem dX4_least_29 : decode cX4_least 29 = .ok (.iload_n 1, 1) := by decide +kernel
theorem dX4_least_30 : decode cX4_least 30 = .ok (.ireturn, 1) := by decide +kernel
theorem dX4_greatest_0 : decode cX4_greatest 0 = .ok (.ldc 47, 2) := by decide +kernel
theorem dX4_greatest_2 : decode cX4_greatest 2 = .ok (.istore_n 1, 1) := by decide +kernel
theorem dX4_greatest_3 : decode cX4_greatest 3 = .ok (.iconst 0, 1) := by decide +kernel
theorem dX4_greatest_4 : decode cX4_greatest 4 = .ok (.istore_n 2, 1) := by decide +kernel
theorem dX4_greatest_5 : decode cX4_greatest 5 = .ok (.iload_n 2, 1) := by decide +kernel
theorem dX4_greatest_6 : decode cX4_greatest 6 = .ok (.aload_n 0, 1) := by decide +kernel
theorem dX4_greatest_7 : decode cX4_greatest 7 = .ok (.getfield 19, 3) := by decide +kernel
theorem dX4_greatest_10 : decode cX4_greatest 10 = .ok (.if_icmp .ge 19, 3) := by decide +kernel
theorem dX4_greatest_13 : decode cX4_greatest 13 = .ok (.iload_n 1, 1) := by decide +kernel
theorem dX4_greatest_14 : decode cX4_greatest 14 = .ok (.aload_n 0, 1) := by decide +kernel
theorem dX4_greatest_15 : decode cX4_greatest 15 = .ok (.iload_n 2, 1) := by decide +kernel
theorem dX4_greatest_16 : decode cX4_greatest 16 = .ok (.invokevirtual 23, 3) := by decide +kernel
theorem dX4_greatest_19 : decode cX4_greatest 19 = .ok (.invokestatic 7, 3) := by decide +kernel
theorem dX4_greatest_22 : decode cX4_greatest 22 = .ok (.istore_n 1, 1) := by decide +kernel
theorem dX4_greatest_23 : decode cX4_greatest 23 = .ok (.iinc 2 1, 3) := by decide +kernel
theorem dX4_greatest_26 : decode cX4_greatest 26 = .ok (.goto (-21), 3) := by decide +kernel
theorem dX4_greatest_29 : decode cX4_greatest 29 = .ok (.iload_n 1, 1) := by decide +kernel
theorem dX4_greatest_30 : decode cX4_greatest 30 = .ok (.ireturn, 1) := by decide +kernel
theorem dX5_init_0 : decode cX5_init 0 = .ok (.aload_n 0, 1) := by decide +kernel
theorem dX5_init_1 : decode cX5_init 1 = .ok (.invokespecial 3, 3) := by decide +kernel
theorem dX5_init_4 : decode cX5_init 4 = .ok (.aload_n 0, 1) := by decide +kernel
theorem dX5_init_5 : decode cX5_init 5 = .ok (.new 9, 3) := by decide +kernel
theorem dX5_init_8 : decode cX5_init 8 = .ok (.dup, 1) := by decide +kernel
theorem dX5_init_9 : decode cX5_init 9 = .ok (.iconst 2, 1) := by decide +kernel
theorem dX5_init_10 : decode cX5_init 10 = .ok (.invokespecial 11, 3) := by decide +kernel
theorem dX5_init_13 : decode cX5_init 13 = .ok (.putfield 14, 3) := by decide +kernel
theorem dX5_init_16 : decode cX5_init 16 = .ok (.aload_n 0, 1) := by decide +kernel
theorem dX5_init_17 : decode cX5_init 17 = .ok (.new 20, 3) := by decide +kernel
theorem dX5_init_20 : decode cX5_init 20 = .ok (.dup, 1) := by decide +kernel
theorem dX5_init_21 : decode cX5_init 21 = .ok (.invokespecial 22, 3) := by decide +kernel
theorem dX5_init_24 : decode cX5_init 24 = .ok (.putfield 23, 3) := by decide +kernel
theorem dX5_init_27 : decode cX5_init 27 = .ok (.aload_n 0, 1) := by decide +kernel
theorem dX5_init_28 : decode cX5_init 28 = .ok (.new 20, 3) := by decide +kernel
theorem dX5_init_31 : decode cX5_init 31 = .ok (.dup, 1) := by decide +kernel
theorem dX5_init_32 : decode cX5_init 32 = .ok (.invokespecial 22, 3) := by decide +kernel
theorem dX5_init_35 : decode cX5_init 35 = .ok (.putfield 27, 3) := by decide +kernel
theorem dX5_init_38 : decode cX5_init 38 = .ok (.aload_n 0, 1) := by decide +kernel
theorem dX5_init_39 : decode cX5_init 39 = .ok (.new 20, 3) := by decide +kernel
theorem dX5_init_42 : decode cX5_init 42 = .ok (.dup, 1) := by decide +kernel
theorem dX5_init_43 : decode cX5_init 43 = .ok (.invokespecial 22, 3) := by decide +kernel
theorem dX5_init_46 : decode cX5_init 46 = .ok (.putfield 30, 3) := by decide +kernel
theorem dX5_init_49 : decode cX5_init 49 = .ok (.aload_n 0, 1) := by decide +kernel
theorem dX5_init_50 : decode cX5_init 50 = .ok (.getfield 14, 3) := by decide +kernel
theorem dX5_init_53 : decode cX5_init 53 = .ok (.bipush 10, 2) := by decide +kernel
theorem dX5_init_55 : decode cX5_init 55 = .ok (.invokevirtual 33, 3) := by decide +kernel
theorem dX5_init_58 : decode cX5_init 58 = .ok (.aload_n 0, 1) := by decide +kernel
theorem dX5_init_59 : decode cX5_init 59 = .ok (.getfield 14, 3) := by decide +kernel
theorem dX5_init_62 : decode cX5_init 62 = .ok (.iconst 5, 1) := by decide +kernel
theorem dX5_init_63 : decode cX5_init 63 = .ok (.invokevirtual 33, 3) := by decide +kernel
theorem dX5_init_66 : decode cX5_init 66 = .ok (.return_, 1) := by decide +kernel
theorem dX5_digestAt_0 : decode cX5_digestAt 0 = .ok (.iload_n 1, 1) := by decide +kernel
theorem dX5_digestAt_1 : decode cX5_digestAt 1 = .ok (.tableswitch 42 0 2 #[27, 32, 37], 27) := by decide +kernel
theorem dX5_digestAt_28 : decode cX5_digestAt 28 = .ok (.aload_n 0, 1) := by decide +kernel
theorem dX5_digestAt_29 : decode cX5_digestAt 29 = .ok (.getfield 23, 3) := by decide +kernel
theorem dX5_digestAt_32 : decode cX5_digestAt 32 = .ok (.areturn, 1) := by decide +kernel
theorem dX5_digestAt_33 : decode cX5_digestAt 33 = .ok (.aload_n 0, 1) := by decide +kernel
theorem dX5_digestAt_34 : decode cX5_digestAt 34 = .ok (.getfield 27, 3) := by decide +kernel
theorem dX5_digestAt_37 : decode cX5_digestAt 37 = .ok (.areturn, 1) := by decide +kernel
theorem dX5_digestAt_38 : decode cX5_digestAt 38 = .ok (.aload_n 0, 1) := by decide +kernel
theorem dX5_digestAt_39 : decode cX5_digestAt 39 = .ok (.getfield 30, 3) := by decide +kernel
theorem dX5_digestAt_42 : decode cX5_digestAt 42 = .ok (.areturn, 1) := by decide +kernel
theorem dX5_digestAt_43 : decode cX5_digestAt 43 = .ok (.aconst_null, 1) := by decide +kernel
theorem dX5_digestAt_44 : decode cX5_digestAt 44 = .ok (.areturn, 1) := by decide +kernel
theorem dX5_weight_0 : decode cX5_weight 0 = .ok (.aload_n 0, 1) := by decide +kernel
theorem dX5_weight_1 : decode cX5_weight 1 = .ok (.getfield 23, 3) := by decide +kernel
theorem dX5_weight_4 : decode cX5_weight 4 = .ok (.invokevirtual 36, 3) := by decide +kernel
theorem dX5_weight_7 : decode cX5_weight 7 = .ok (.aload_n 0, 1) := by decide +kernel
theorem dX5_weight_8 : decode cX5_weight 8 = .ok (.getfield 27, 3) := by decide +kernel
theorem dX5_weight_11 : decode cX5_weight 11 = .ok (.invokevirtual 36, 3) := by decide +kernel
theorem dX5_weight_14 : decode cX5_weight 14 = .ok (.iadd, 1) := by decide +kernel
theorem dX5_weight_15 : decode cX5_weight 15 = .ok (.aload_n 0, 1) := by decide +kernel
theorem dX5_weight_16 : decode cX5_weight 16 = .ok (.getfield 30, 3) := by decide +kernel
theorem dX5_weight_19 : decode cX5_weight 19 = .ok (.invokevirtual 36, 3) := by decide +kernel
theorem dX5_weight_22 : decode cX5_weight 22 = .ok (.iadd, 1) := by decide +kernel
theorem dX5_weight_23 : decode cX5_weight 23 = .ok (.ireturn, 1) := by decide +kernel
theorem dX5_heapCount_0 : decode cX5_heapCount 0 = .ok (.aload_n 0, 1) := by decide +kernel
theorem dX5_heapCount_1 : decode cX5_heapCount 1 = .ok (.getfield 23, 3) := by decide +kernel
theorem dX5_heapCount_4 : decode cX5_heapCount 4 = .ok (.getfield 40, 3) := by decide +kernel
theorem dX5_heapCount_7 : decode cX5_heapCount 7 = .ok (.invokevirtual 44, 3) := by decide +kernel
theorem dX5_heapCount_10 : decode cX5_heapCount 10 = .ok (.aload_n 0, 1) := by decide +kernel
theorem dX5_heapCount_11 : decode cX5_heapCount 11 = .ok (.getfield 27, 3) := by decide +kernel
theorem dX5_heapCount_14 : decode cX5_heapCount 14 = .ok (.getfield 40, 3) := by decide +kernel
theorem dX5_heapCount_17 : decode cX5_heapCount 17 = .ok (.invokevirtual 44, 3) := by decide +kernel
theorem dX5_heapCount_20 : decode cX5_heapCount 20 = .ok (.iadd, 1) := by decide +kernel
theorem dX5_heapCount_21 : decode cX5_heapCount 21 = .ok (.aload_n 0, 1) := by decide +kernel
theorem dX5_heapCount_22 : decode cX5_heapCount 22 = .ok (.getfield 30, 3) := by decide +kernel
theorem dX5_heapCount_25 : decode cX5_heapCount 25 = .ok (.getfield 40, 3) := by decide +kernel
theorem dX5_heapCount_28 : decode cX5_heapCount 28 = .ok (.invokevirtual 44, 3) := by decide +kernel
theorem dX5_heapCount_31 : decode cX5_heapCount 31 = .ok (.iadd, 1) := by decide +kernel
theorem dX5_heapCount_32 : decode cX5_heapCount 32 = .ok (.ireturn, 1) := by decide +kernel
theorem dX5_copyFrom_0 : decode cX5_copyFrom 0 = .ok (.aload_n 0, 1) := by decide +kernel
theorem dX5_copyFrom_1 : decode cX5_copyFrom 1 = .ok (.getfield 14, 3) := by decide +kernel
theorem dX5_copyFrom_4 : decode cX5_copyFrom 4 = .ok (.aload_n 1, 1) := by decide +kernel
theorem dX5_copyFrom_5 : decode cX5_copyFrom 5 = .ok (.getfield 14, 3) := by decide +kernel
theorem dX5_copyFrom_8 : decode cX5_copyFrom 8 = .ok (.invokevirtual 49, 3) := by decide +kernel
theorem dX5_copyFrom_11 : decode cX5_copyFrom 11 = .ok (.aload_n 0, 1) := by decide +kernel
theorem dX5_copyFrom_12 : decode cX5_copyFrom 12 = .ok (.getfield 23, 3) := by decide +kernel
theorem dX5_copyFrom_15 : decode cX5_copyFrom 15 = .ok (.aload_n 1, 1) := by decide +kernel
theorem dX5_copyFrom_16 : decode cX5_copyFrom 16 = .ok (.getfield 23, 3) := by decide +kernel
theorem dX5_copyFrom_19 : decode cX5_copyFrom 19 = .ok (.invokevirtual 53, 3) := by decide +kernel
theorem dX5_copyFrom_22 : decode cX5_copyFrom 22 = .ok (.aload_n 0, 1) := by decide +kernel
theorem dX5_copyFrom_23 : decode cX5_copyFrom 23 = .ok (.getfield 27, 3) := by decide +kernel
theorem dX5_copyFrom_26 : decode cX5_copyFrom 26 = .ok (.aload_n 1, 1) := by decide +kernel
theorem dX5_copyFrom_27 : decode cX5_copyFrom 27 = .ok (.getfield 27, 3) := by decide +kernel
theorem dX5_copyFrom_30 : decode cX5_copyFrom 30 = .ok (.invokevirtual 53, 3) := by decide +kernel
theorem dX5_copyFrom_33 : decode cX5_copyFrom 33 = .ok (.aload_n 0, 1) := by decide +kernel
theorem dX5_copyFrom_34 : decode cX5_copyFrom 34 = .ok (.getfield 30, 3) := by decide +kernel
theorem dX5_copyFrom_37 : decode cX5_copyFrom 37 = .ok (.aload_n 1, 1) := by decide +kernel
theorem dX5_copyFrom_38 : decode cX5_copyFrom 38 = .ok (.getfield 30, 3) := by decide +kernel
theorem dX5_copyFrom_41 : decode cX5_copyFrom 41 = .ok (.invokevirtual 53, 3) := by decide +kernel
theorem dX5_copyFrom_44 : decode cX5_copyFrom 44 = .ok (.return_, 1) := by decide +kernel
theorem dX6_init_0 : decode cX6_init 0 = .ok (.aload_n 0, 1) := by decide +kernel
theorem dX6_init_1 : decode cX6_init 1 = .ok (.invokespecial 3, 3) := by decide +kernel
theorem dX6_init_4 : decode cX6_init 4 = .ok (.aload_n 0, 1) := by decide +kernel
theorem dX6_init_5 : decode cX6_init 5 = .ok (.new 9, 3) := by decide +kernel
theorem dX6_init_8 : decode cX6_init 8 = .ok (.dup, 1) := by decide +kernel
theorem dX6_init_9 : decode cX6_init 9 = .ok (.iconst 3, 1) := by decide +kernel
theorem dX6_init_10 : decode cX6_init 10 = .ok (.invokespecial 11, 3) := by decide +kernel
theorem dX6_init_13 : decode cX6_init 13 = .ok (.putfield 14, 3) := by decide +kernel
theorem dX6_init_16 : decode cX6_init 16 = .ok (.aload_n 0, 1) := by decide +kernel
theorem dX6_init_17 : decode cX6_init 17 = .ok (.iconst 0, 1) := by decide +kernel
theorem dX6_init_18 : decode cX6_init 18 = .ok (.putfield 20, 3) := by decide +kernel
theorem dX6_init_21 : decode cX6_init 21 = .ok (.aload_n 0, 1) := by decide +kernel
theorem dX6_init_22 : decode cX6_init 22 = .ok (.iconst 0, 1) := by decide +kernel
theorem dX6_init_23 : decode cX6_init 23 = .ok (.putfield 24, 3) := by decide +kernel
theorem dX6_init_26 : decode cX6_init 26 = .ok (.aload_n 0, 1) := by decide +kernel
theorem dX6_init_27 : decode cX6_init 27 = .ok (.iconst 0, 1) := by decide +kernel
theorem dX6_init_28 : decode cX6_init 28 = .ok (.putfield 27, 3) := by decide +kernel
theorem dX6_init_31 : decode cX6_init 31 = .ok (.return_, 1) := by decide +kernel
theorem dX6_find_0 : decode cX6_find 0 = .ok (.aload_n 0, 1) := by decide +kernel
theorem dX6_find_1 : decode cX6_find 1 = .ok (.aload_n 2, 1) := by decide +kernel
theorem dX6_find_2 : decode cX6_find 2 = .ok (.invokevirtual 30, 3) := by decide +kernel
theorem dX6_find_5 : decode cX6_find 5 = .ok (.aload_n 0, 1) := by decide +kernel
theorem dX6_find_6 : decode cX6_find 6 = .ok (.iconst 0, 1) := by decide +kernel
theorem dX6_find_7 : decode cX6_find 7 = .ok (.putfield 24, 3) := by decide +kernel
theorem dX6_find_10 : decode cX6_find 10 = .ok (.iconst 0, 1) := by decide +kernel
theorem dX6_find_11 : decode cX6_find 11 = .ok (.istore 4, 2) := by decide +kernel
theorem dX6_find_13 : decode cX6_find 13 = .ok (.iconst 0, 1) := by decide +kernel
theorem dX6_find_14 : decode cX6_find 14 = .ok (.istore 5, 2) := by decide +kernel
theorem dX6_find_16 : decode cX6_find 16 = .ok (.iload 5, 2) := by decide +kernel
theorem dX6_find_18 : decode cX6_find 18 = .ok (.bipush 60, 2) := by decide +kernel
theorem dX6_find_20 : decode cX6_find 20 = .ok (.if_icmp .ge 61, 3) := by decide +kernel
theorem dX6_find_23 : decode cX6_find 23 = .ok (.iload 4, 2) := by decide +kernel
theorem dX6_find_25 : decode cX6_find 25 = .ok (.aload_n 1, 1) := by decide +kernel
theorem dX6_find_26 : decode cX6_find 26 = .ok (.invokevirtual 34, 3) := by decide +kernel
theorem dX6_find_29 : decode cX6_find 29 = .ok (.if_icmp .ge 52, 3) := by decide +kernel
theorem dX6_find_32 : decode cX6_find 32 = .ok (.aload_n 0, 1) := by decide +kernel
theorem dX6_find_33 : decode cX6_find 33 = .ok (.aload_n 0, 1) := by decide +kernel
theorem dX6_find_34 : decode cX6_find 34 = .ok (.aload_n 1, 1) := by decide +kernel
theorem dX6_find_35 : decode cX6_find 35 = .ok (.iload 4, 2) := by decide +kernel
theorem dX6_find_37 : decode cX6_find 37 = .ok (.aload_n 3, 1) := by decide +kernel
theorem dX6_find_38 : decode cX6_find 38 = .ok (.invokevirtual 38, 3) := by decide +kernel
end
section
theorem dX6_find_41 : decode cX6_find 41 = .ok (.putfield 24, 3) := by decide +kernel
theorem dX6_find_44 : decode cX6_find 44 = .ok (.aload_n 0, 1) := by decide +kernel
theorem dX6_find_45 : decode cX6_find 45 = .ok (.getfield 24, 3) := by decide +kernel
theorem dX6_find_48 : decode cX6_find 48 = .ok (.ifCond .eq 21, 3) := by decide +kernel
theorem dX6_find_51 : decode cX6_find 51 = .ok (.aload_n 0, 1) := by decide +kernel
theorem dX6_find_52 : decode cX6_find 52 = .ok (.iload 4, 2) := by decide +kernel
theorem dX6_find_54 : decode cX6_find 54 = .ok (.putfield 20, 3) := by decide +kernel
theorem dX6_find_57 : decode cX6_find 57 = .ok (.aload_n 0, 1) := by decide +kernel
theorem dX6_find_58 : decode cX6_find 58 = .ok (.aload_n 3, 1) := by decide +kernel
theorem dX6_find_59 : decode cX6_find 59 = .ok (.getfield 42, 3) := by decide +kernel
theorem dX6_find_62 : decode cX6_find 62 = .ok (.iload 4, 2) := by decide +kernel
theorem dX6_find_64 : decode cX6_find 64 = .ok (.isub, 1) := by decide +kernel
theorem dX6_find_65 : decode cX6_find 65 = .ok (.putfield 27, 3) := by decide +kernel
theorem dX6_find_68 : decode cX6_find 68 = .ok (.return_, 1) := by decide +kernel
theorem dX6_find_69 : decode cX6_find 69 = .ok (.aload_n 3, 1) := by decide +kernel
theorem dX6_find_70 : decode cX6_find 70 = .ok (.getfield 42, 3) := by decide +kernel
theorem dX6_find_73 : decode cX6_find 73 = .ok (.istore 4, 2) := by decide +kernel
theorem dX6_find_75 : decode cX6_find 75 = .ok (.iinc 5 1, 3) := by decide +kernel
theorem dX6_find_78 : decode cX6_find 78 = .ok (.goto (-62), 3) := by decide +kernel
theorem dX6_find_81 : decode cX6_find 81 = .ok (.return_, 1) := by decide +kernel
theorem dX6_startWeights_0 : decode cX6_startWeights 0 = .ok (.aload_n 0, 1) := by decide +kernel
theorem dX6_startWeights_1 : decode cX6_startWeights 1 = .ok (.getfield 14, 3) := by decide +kernel
theorem dX6_startWeights_4 : decode cX6_startWeights 4 = .ok (.invokevirtual 47, 3) := by decide +kernel
theorem dX6_startWeights_7 : decode cX6_startWeights 7 = .ok (.iconst 0, 1) := by decide +kernel
theorem dX6_startWeights_8 : decode cX6_startWeights 8 = .ok (.istore_n 2, 1) := by decide +kernel
theorem dX6_startWeights_9 : decode cX6_startWeights 9 = .ok (.iload_n 2, 1) := by decide +kernel
theorem dX6_startWeights_10 : decode cX6_startWeights 10 = .ok (.iconst 3, 1) := by decide +kernel
theorem dX6_startWeights_11 : decode cX6_startWeights 11 = .ok (.if_icmp .ge 34, 3) := by decide +kernel
theorem dX6_startWeights_14 : decode cX6_startWeights 14 = .ok (.aload_n 1, 1) := by decide +kernel
theorem dX6_startWeights_15 : decode cX6_startWeights 15 = .ok (.iload_n 2, 1) := by decide +kernel
theorem dX6_startWeights_16 : decode cX6_startWeights 16 = .ok (.invokevirtual 50, 3) := by decide +kernel
theorem dX6_startWeights_19 : decode cX6_startWeights 19 = .ok (.astore_n 3, 1) := by decide +kernel
theorem dX6_startWeights_20 : decode cX6_startWeights 20 = .ok (.aload_n 0, 1) := by decide +kernel
theorem dX6_startWeights_21 : decode cX6_startWeights 21 = .ok (.getfield 14, 3) := by decide +kernel
theorem dX6_startWeights_24 : decode cX6_startWeights 24 = .ok (.aload_n 3, 1) := by decide +kernel
theorem dX6_startWeights_25 : decode cX6_startWeights 25 = .ok (.ifnonnull 7, 3) := by decide +kernel
theorem dX6_startWeights_28 : decode cX6_startWeights 28 = .ok (.iconst 0, 1) := by decide +kernel
theorem dX6_startWeights_29 : decode cX6_startWeights 29 = .ok (.goto 7, 3) := by decide +kernel
theorem dX6_startWeights_32 : decode cX6_startWeights 32 = .ok (.aload_n 3, 1) := by decide +kernel
theorem dX6_startWeights_33 : decode cX6_startWeights 33 = .ok (.invokevirtual 56, 3) := by decide +kernel
theorem dX6_startWeights_36 : decode cX6_startWeights 36 = .ok (.invokevirtual 61, 3) := by decide +kernel
theorem dX6_startWeights_39 : decode cX6_startWeights 39 = .ok (.iinc 2 1, 3) := by decide +kernel
theorem dX6_startWeights_42 : decode cX6_startWeights 42 = .ok (.goto (-33), 3) := by decide +kernel
theorem dX6_startWeights_45 : decode cX6_startWeights 45 = .ok (.return_, 1) := by decide +kernel
theorem dX6_reasonOf_0 : decode cX6_reasonOf 0 = .ok (.aload_n 3, 1) := by decide +kernel
theorem dX6_reasonOf_1 : decode cX6_reasonOf 1 = .ok (.aload_n 1, 1) := by decide +kernel
theorem dX6_reasonOf_2 : decode cX6_reasonOf 2 = .ok (.iload_n 2, 1) := by decide +kernel
theorem dX6_reasonOf_3 : decode cX6_reasonOf 3 = .ok (.invokevirtual 64, 3) := by decide +kernel
theorem dX6_reasonOf_6 : decode cX6_reasonOf 6 = .ok (.ifCond .ne 5, 3) := by decide +kernel
theorem dX6_reasonOf_9 : decode cX6_reasonOf 9 = .ok (.iconst 1, 1) := by decide +kernel
theorem dX6_reasonOf_10 : decode cX6_reasonOf 10 = .ok (.ireturn, 1) := by decide +kernel
theorem dX6_reasonOf_11 : decode cX6_reasonOf 11 = .ok (.aload_n 3, 1) := by decide +kernel
theorem dX6_reasonOf_12 : decode cX6_reasonOf 12 = .ok (.getfield 68, 3) := by decide +kernel
theorem dX6_reasonOf_15 : decode cX6_reasonOf 15 = .ok (.iconst 3, 1) := by decide +kernel
theorem dX6_reasonOf_16 : decode cX6_reasonOf 16 = .ok (.if_icmp .lt 5, 3) := by decide +kernel
theorem dX6_reasonOf_19 : decode cX6_reasonOf 19 = .ok (.iconst 2, 1) := by decide +kernel
theorem dX6_reasonOf_20 : decode cX6_reasonOf 20 = .ok (.ireturn, 1) := by decide +kernel
theorem dX6_reasonOf_21 : decode cX6_reasonOf 21 = .ok (.aload_n 0, 1) := by decide +kernel
theorem dX6_reasonOf_22 : decode cX6_reasonOf 22 = .ok (.getfield 14, 3) := by decide +kernel
theorem dX6_reasonOf_25 : decode cX6_reasonOf 25 = .ok (.aload_n 3, 1) := by decide +kernel
theorem dX6_reasonOf_26 : decode cX6_reasonOf 26 = .ok (.getfield 68, 3) := by decide +kernel
theorem dX6_reasonOf_29 : decode cX6_reasonOf 29 = .ok (.invokevirtual 71, 3) := by decide +kernel
theorem dX6_reasonOf_32 : decode cX6_reasonOf 32 = .ok (.aload_n 3, 1) := by decide +kernel
theorem dX6_reasonOf_33 : decode cX6_reasonOf 33 = .ok (.getfield 75, 3) := by decide +kernel
theorem dX6_reasonOf_36 : decode cX6_reasonOf 36 = .ok (.invokevirtual 34, 3) := by decide +kernel
theorem dX6_reasonOf_39 : decode cX6_reasonOf 39 = .ok (.iadd, 1) := by decide +kernel
theorem dX6_reasonOf_40 : decode cX6_reasonOf 40 = .ok (.istore 4, 2) := by decide +kernel
theorem dX6_reasonOf_42 : decode cX6_reasonOf 42 = .ok (.iload 4, 2) := by decide +kernel
theorem dX6_reasonOf_44 : decode cX6_reasonOf 44 = .ok (.sipush 200, 3) := by decide +kernel
theorem dX6_reasonOf_47 : decode cX6_reasonOf 47 = .ok (.if_icmp .le 5, 3) := by decide +kernel
theorem dX6_reasonOf_50 : decode cX6_reasonOf 50 = .ok (.iconst 3, 1) := by decide +kernel
theorem dX6_reasonOf_51 : decode cX6_reasonOf 51 = .ok (.ireturn, 1) := by decide +kernel
theorem dX6_reasonOf_52 : decode cX6_reasonOf 52 = .ok (.aload_n 0, 1) := by decide +kernel
theorem dX6_reasonOf_53 : decode cX6_reasonOf 53 = .ok (.getfield 14, 3) := by decide +kernel
theorem dX6_reasonOf_56 : decode cX6_reasonOf 56 = .ok (.aload_n 3, 1) := by decide +kernel
theorem dX6_reasonOf_57 : decode cX6_reasonOf 57 = .ok (.getfield 68, 3) := by decide +kernel
theorem dX6_reasonOf_60 : decode cX6_reasonOf 60 = .ok (.iload 4, 2) := by decide +kernel
theorem dX6_reasonOf_62 : decode cX6_reasonOf 62 = .ok (.invokevirtual 78, 3) := by decide +kernel
theorem dX6_reasonOf_65 : decode cX6_reasonOf 65 = .ok (.iconst 0, 1) := by decide +kernel
theorem dX6_reasonOf_66 : decode cX6_reasonOf 66 = .ok (.ireturn, 1) := by decide +kernel
theorem dX7_init_0 : decode cX7_init 0 = .ok (.aload_n 0, 1) := by decide +kernel
theorem dX7_init_1 : decode cX7_init 1 = .ok (.invokespecial 3, 3) := by decide +kernel
theorem dX7_init_4 : decode cX7_init 4 = .ok (.aload_n 0, 1) := by decide +kernel
theorem dX7_init_5 : decode cX7_init 5 = .ok (.new 9, 3) := by decide +kernel
theorem dX7_init_8 : decode cX7_init 8 = .ok (.dup, 1) := by decide +kernel
theorem dX7_init_9 : decode cX7_init 9 = .ok (.invokespecial 11, 3) := by decide +kernel
theorem dX7_init_12 : decode cX7_init 12 = .ok (.putfield 12, 3) := by decide +kernel
theorem dX7_init_15 : decode cX7_init 15 = .ok (.aload_n 0, 1) := by decide +kernel
theorem dX7_init_16 : decode cX7_init 16 = .ok (.new 16, 3) := by decide +kernel
theorem dX7_init_19 : decode cX7_init 19 = .ok (.dup, 1) := by decide +kernel
theorem dX7_init_20 : decode cX7_init 20 = .ok (.invokespecial 18, 3) := by decide +kernel
theorem dX7_init_23 : decode cX7_init 23 = .ok (.putfield 19, 3) := by decide +kernel
theorem dX7_init_26 : decode cX7_init 26 = .ok (.aload_n 0, 1) := by decide +kernel
theorem dX7_init_27 : decode cX7_init 27 = .ok (.new 23, 3) := by decide +kernel
theorem dX7_init_30 : decode cX7_init 30 = .ok (.dup, 1) := by decide +kernel
theorem dX7_init_31 : decode cX7_init 31 = .ok (.bipush 60, 2) := by decide +kernel
theorem dX7_init_33 : decode cX7_init 33 = .ok (.invokespecial 25, 3) := by decide +kernel
theorem dX7_init_36 : decode cX7_init 36 = .ok (.putfield 28, 3) := by decide +kernel
theorem dX7_init_39 : decode cX7_init 39 = .ok (.aload_n 0, 1) := by decide +kernel
theorem dX7_init_40 : decode cX7_init 40 = .ok (.new 32, 3) := by decide +kernel
theorem dX7_init_43 : decode cX7_init 43 = .ok (.dup, 1) := by decide +kernel
theorem dX7_init_44 : decode cX7_init 44 = .ok (.invokespecial 34, 3) := by decide +kernel
theorem dX7_init_47 : decode cX7_init 47 = .ok (.putfield 35, 3) := by decide +kernel
theorem dX7_init_50 : decode cX7_init 50 = .ok (.aload_n 0, 1) := by decide +kernel
theorem dX7_init_51 : decode cX7_init 51 = .ok (.new 39, 3) := by decide +kernel
theorem dX7_init_54 : decode cX7_init 54 = .ok (.dup, 1) := by decide +kernel
theorem dX7_init_55 : decode cX7_init 55 = .ok (.invokespecial 41, 3) := by decide +kernel
theorem dX7_init_58 : decode cX7_init 58 = .ok (.putfield 42, 3) := by decide +kernel
theorem dX7_init_61 : decode cX7_init 61 = .ok (.aload_n 0, 1) := by decide +kernel
theorem dX7_init_62 : decode cX7_init 62 = .ok (.new 46, 3) := by decide +kernel
theorem dX7_init_65 : decode cX7_init 65 = .ok (.dup, 1) := by decide +kernel
theorem dX7_init_66 : decode cX7_init 66 = .ok (.invokespecial 48, 3) := by decide +kernel
theorem dX7_init_69 : decode cX7_init 69 = .ok (.putfield 49, 3) := by decide +kernel
theorem dX7_init_72 : decode cX7_init 72 = .ok (.return_, 1) := by decide +kernel
theorem dX7_add_0 : decode cX7_add 0 = .ok (.aload_n 0, 1) := by decide +kernel
theorem dX7_add_1 : decode cX7_add 1 = .ok (.getfield 12, 3) := by decide +kernel
theorem dX7_add_4 : decode cX7_add 4 = .ok (.iload_n 1, 1) := by decide +kernel
theorem dX7_add_5 : decode cX7_add 5 = .ok (.invokevirtual 53, 3) := by decide +kernel
theorem dX7_add_8 : decode cX7_add 8 = .ok (.astore 4, 2) := by decide +kernel
theorem dX7_add_10 : decode cX7_add 10 = .ok (.aload 4, 2) := by decide +kernel
theorem dX7_add_12 : decode cX7_add 12 = .ok (.ifnull 24, 3) := by decide +kernel
theorem dX7_add_15 : decode cX7_add 15 = .ok (.iload_n 2, 1) := by decide +kernel
theorem dX7_add_16 : decode cX7_add 16 = .ok (.iconst 0, 1) := by decide +kernel
theorem dX7_add_17 : decode cX7_add 17 = .ok (.sipush 9999, 3) := by decide +kernel
theorem dX7_add_20 : decode cX7_add 20 = .ok (.invokestatic 57, 3) := by decide +kernel
theorem dX7_add_23 : decode cX7_add 23 = .ok (.ifCond .eq 13, 3) := by decide +kernel
theorem dX7_add_26 : decode cX7_add 26 = .ok (.iload_n 3, 1) := by decide +kernel
theorem dX7_add_27 : decode cX7_add 27 = .ok (.iconst 1, 1) := by decide +kernel
theorem dX7_add_28 : decode cX7_add 28 = .ok (.bipush 20, 2) := by decide +kernel
theorem dX7_add_30 : decode cX7_add 30 = .ok (.invokestatic 57, 3) := by decide +kernel
theorem dX7_add_33 : decode cX7_add 33 = .ok (.ifCond .ne 6, 3) := by decide +kernel
theorem dX7_add_36 : decode cX7_add 36 = .ok (.ldc 61, 2) := by decide +kernel
theorem dX7_add_38 : decode cX7_add 38 = .ok (.ireturn, 1) := by decide +kernel
theorem dX7_add_39 : decode cX7_add 39 = .ok (.aload 4, 2) := by decide +kernel
theorem dX7_add_41 : decode cX7_add 41 = .ok (.invokevirtual 62, 3) := by decide +kernel
theorem dX7_add_44 : decode cX7_add 44 = .ok (.iload_n 3, 1) := by decide +kernel
theorem dX7_add_45 : decode cX7_add 45 = .ok (.iadd, 1) := by decide +kernel
theorem dX7_add_46 : decode cX7_add 46 = .ok (.sipush 200, 3) := by decide +kernel
theorem dX7_add_49 : decode cX7_add 49 = .ok (.if_icmp .le 6, 3) := by decide +kernel
theorem dX7_add_52 : decode cX7_add 52 = .ok (.ldc 68, 2) := by decide +kernel
theorem dX7_add_54 : decode cX7_add 54 = .ok (.ireturn, 1) := by decide +kernel
theorem dX7_add_55 : decode cX7_add 55 = .ok (.aload_n 0, 1) := by decide +kernel
theorem dX7_add_56 : decode cX7_add 56 = .ok (.getfield 19, 3) := by decide +kernel
theorem dX7_add_59 : decode cX7_add 59 = .ok (.aload_n 0, 1) := by decide +kernel
theorem dX7_add_60 : decode cX7_add 60 = .ok (.getfield 12, 3) := by decide +kernel
theorem dX7_add_63 : decode cX7_add 63 = .ok (.invokevirtual 69, 3) := by decide +kernel
theorem dX7_add_66 : decode cX7_add 66 = .ok (.iconst 0, 1) := by decide +kernel
theorem dX7_add_67 : decode cX7_add 67 = .ok (.istore 5, 2) := by decide +kernel
theorem dX7_add_69 : decode cX7_add 69 = .ok (.iload 5, 2) := by decide +kernel
theorem dX7_add_71 : decode cX7_add 71 = .ok (.iload_n 3, 1) := by decide +kernel
theorem dX7_add_72 : decode cX7_add 72 = .ok (.if_icmp .ge 22, 3) := by decide +kernel
theorem dX7_add_75 : decode cX7_add 75 = .ok (.aload 4, 2) := by decide +kernel
theorem dX7_add_77 : decode cX7_add 77 = .ok (.iload_n 2, 1) := by decide +kernel
theorem dX7_add_78 : decode cX7_add 78 = .ok (.aload_n 0, 1) := by decide +kernel
theorem dX7_add_79 : decode cX7_add 79 = .ok (.getfield 12, 3) := by decide +kernel
theorem dX7_add_82 : decode cX7_add 82 = .ok (.getfield 73, 3) := by decide +kernel
theorem dX7_add_85 : decode cX7_add 85 = .ok (.invokevirtual 76, 3) := by decide +kernel
theorem dX7_add_88 : decode cX7_add 88 = .ok (.iinc 5 1, 3) := by decide +kernel
theorem dX7_add_91 : decode cX7_add 91 = .ok (.goto (-22), 3) := by decide +kernel
theorem dX7_add_94 : decode cX7_add 94 = .ok (.aload 4, 2) := by decide +kernel
theorem dX7_add_96 : decode cX7_add 96 = .ok (.invokevirtual 62, 3) := by decide +kernel
theorem dX7_add_99 : decode cX7_add 99 = .ok (.ireturn, 1) := by decide +kernel
theorem dX7_pack_0 : decode cX7_pack 0 = .ok (.aload_n 0, 1) := by decide +kernel
theorem dX7_pack_1 : decode cX7_pack 1 = .ok (.getfield 12, 3) := by decide +kernel
theorem dX7_pack_4 : decode cX7_pack 4 = .ok (.iload_n 1, 1) := by decide +kernel
theorem dX7_pack_5 : decode cX7_pack 5 = .ok (.invokevirtual 53, 3) := by decide +kernel
theorem dX7_pack_8 : decode cX7_pack 8 = .ok (.astore_n 2, 1) := by decide +kernel
theorem dX7_pack_9 : decode cX7_pack 9 = .ok (.aload_n 2, 1) := by decide +kernel
theorem dX7_pack_10 : decode cX7_pack 10 = .ok (.ifnonnull 6, 3) := by decide +kernel
theorem dX7_pack_13 : decode cX7_pack 13 = .ok (.ldc 61, 2) := by decide +kernel
theorem dX7_pack_15 : decode cX7_pack 15 = .ok (.ireturn, 1) := by decide +kernel
theorem dX7_pack_16 : decode cX7_pack 16 = .ok (.aload_n 0, 1) := by decide +kernel
theorem dX7_pack_17 : decode cX7_pack 17 = .ok (.getfield 19, 3) := by decide +kernel
theorem dX7_pack_20 : decode cX7_pack 20 = .ok (.aload_n 0, 1) := by decide +kernel
theorem dX7_pack_21 : decode cX7_pack 21 = .ok (.getfield 12, 3) := by decide +kernel
theorem dX7_pack_24 : decode cX7_pack 24 = .ok (.invokevirtual 69, 3) := by decide +kernel
theorem dX7_pack_27 : decode cX7_pack 27 = .ok (.aload_n 2, 1) := by decide +kernel
theorem dX7_pack_28 : decode cX7_pack 28 = .ok (.aload_n 0, 1) := by decide +kernel
theorem dX7_pack_29 : decode cX7_pack 29 = .ok (.getfield 12, 3) := by decide +kernel
theorem dX7_pack_32 : decode cX7_pack 32 = .ok (.getfield 73, 3) := by decide +kernel
theorem dX7_pack_35 : decode cX7_pack 35 = .ok (.iconst 0, 1) := by decide +kernel
theorem dX7_pack_36 : decode cX7_pack 36 = .ok (.invokevirtual 80, 3) := by decide +kernel
theorem dX7_pack_39 : decode cX7_pack 39 = .ok (.invokevirtual 84, 3) := by decide +kernel
theorem dX7_pack_42 : decode cX7_pack 42 = .ok (.aload_n 2, 1) := by decide +kernel
theorem dX7_pack_43 : decode cX7_pack 43 = .ok (.getfield 87, 3) := by decide +kernel
theorem dX7_pack_46 : decode cX7_pack 46 = .ok (.invokevirtual 90, 3) := by decide +kernel
theorem dX7_pack_49 : decode cX7_pack 49 = .ok (.ireturn, 1) := by decide +kernel
theorem dX7_join_0 : decode cX7_join 0 = .ok (.aload_n 0, 1) := by decide +kernel
theorem dX7_join_1 : decode cX7_join 1 = .ok (.getfield 12, 3) := by decide +kernel
theorem dX7_join_4 : decode cX7_join 4 = .ok (.iload_n 1, 1) := by decide +kernel
theorem dX7_join_5 : decode cX7_join 5 = .ok (.invokevirtual 53, 3) := by decide +kernel
theorem dX7_join_8 : decode cX7_join 8 = .ok (.astore_n 3, 1) := by decide +kernel
theorem dX7_join_9 : decode cX7_join 9 = .ok (.aload_n 0, 1) := by decide +kernel
theorem dX7_join_10 : decode cX7_join 10 = .ok (.getfield 12, 3) := by decide +kernel
theorem dX7_join_13 : decode cX7_join 13 = .ok (.iload_n 2, 1) := by decide +kernel
theorem dX7_join_14 : decode cX7_join 14 = .ok (.invokevirtual 53, 3) := by decide +kernel
theorem dX7_join_17 : decode cX7_join 17 = .ok (.astore 4, 2) := by decide +kernel
theorem dX7_join_19 : decode cX7_join 19 = .ok (.aload_n 3, 1) := by decide +kernel
theorem dX7_join_20 : decode cX7_join 20 = .ok (.ifnull 13, 3) := by decide +kernel
theorem dX7_join_23 : decode cX7_join 23 = .ok (.aload 4, 2) := by decide +kernel
theorem dX7_join_25 : decode cX7_join 25 = .ok (.ifnull 8, 3) := by decide +kernel
theorem dX7_join_28 : decode cX7_join 28 = .ok (.iload_n 1, 1) := by decide +kernel
theorem dX7_join_29 : decode cX7_join 29 = .ok (.iload_n 2, 1) := by decide +kernel
theorem dX7_join_30 : decode cX7_join 30 = .ok (.if_icmp .ne 6, 3) := by decide +kernel
theorem dX7_join_33 : decode cX7_join 33 = .ok (.ldc 61, 2) := by decide +kernel
theorem dX7_join_35 : decode cX7_join 35 = .ok (.ireturn, 1) := by decide +kernel
theorem dX7_join_36 : decode cX7_join 36 = .ok (.aload_n 3, 1) := by decide +kernel
theorem dX7_join_37 : decode cX7_join 37 = .ok (.invokevirtual 62, 3) := by decide +kernel
theorem dX7_join_40 : decode cX7_join 40 = .ok (.aload 4, 2) := by decide +kernel
theorem dX7_join_42 : decode cX7_join 42 = .ok (.invokevirtual 62, 3) := by decide +kernel
theorem dX7_join_45 : decode cX7_join 45 = .ok (.iadd, 1) := by decide +kernel
theorem dX7_join_46 : decode cX7_join 46 = .ok (.sipush 200, 3) := by decide +kernel
theorem dX7_join_49 : decode cX7_join 49 = .ok (.if_icmp .le 6, 3) := by decide +kernel
theorem dX7_join_52 : decode cX7_join 52 = .ok (.ldc 68, 2) := by decide +kernel
theorem dX7_join_54 : decode cX7_join 54 = .ok (.ireturn, 1) := by decide +kernel
theorem dX7_join_55 : decode cX7_join 55 = .ok (.aload_n 0, 1) := by decide +kernel
theorem dX7_join_56 : decode cX7_join 56 = .ok (.getfield 19, 3) := by decide +kernel
theorem dX7_join_59 : decode cX7_join 59 = .ok (.aload_n 0, 1) := by decide +kernel
theorem dX7_join_60 : decode cX7_join 60 = .ok (.getfield 12, 3) := by decide +kernel
theorem dX7_join_63 : decode cX7_join 63 = .ok (.invokevirtual 69, 3) := by decide +kernel
theorem dX7_join_66 : decode cX7_join 66 = .ok (.aload 4, 2) := by decide +kernel
theorem dX7_join_68 : decode cX7_join 68 = .ok (.aload_n 3, 1) := by decide +kernel
theorem dX7_join_69 : decode cX7_join 69 = .ok (.aload_n 0, 1) := by decide +kernel
theorem dX7_join_70 : decode cX7_join 70 = .ok (.getfield 12, 3) := by decide +kernel
theorem dX7_join_73 : decode cX7_join 73 = .ok (.getfield 73, 3) := by decide +kernel
theorem dX7_join_76 : decode cX7_join 76 = .ok (.iconst 0, 1) := by decide +kernel
theorem dX7_join_77 : decode cX7_join 77 = .ok (.invokevirtual 80, 3) := by decide +kernel
theorem dX7_join_80 : decode cX7_join 80 = .ok (.invokevirtual 93, 3) := by decide +kernel
theorem dX7_join_83 : decode cX7_join 83 = .ok (.aload 4, 2) := by decide +kernel
theorem dX7_join_85 : decode cX7_join 85 = .ok (.invokevirtual 62, 3) := by decide +kernel
theorem dX7_join_88 : decode cX7_join 88 = .ok (.ireturn, 1) := by decide +kernel
theorem dX7_clear_0 : decode cX7_clear 0 = .ok (.aload_n 0, 1) := by decide +kernel
theorem dX7_clear_1 : decode cX7_clear 1 = .ok (.getfield 12, 3) := by decide +kernel
theorem dX7_clear_4 : decode cX7_clear 4 = .ok (.iload_n 1, 1) := by decide +kernel
theorem dX7_clear_5 : decode cX7_clear 5 = .ok (.invokevirtual 53, 3) := by decide +kernel
theorem dX7_clear_8 : decode cX7_clear 8 = .ok (.astore_n 2, 1) := by decide +kernel
theorem dX7_clear_9 : decode cX7_clear 9 = .ok (.aload_n 2, 1) := by decide +kernel
theorem dX7_clear_10 : decode cX7_clear 10 = .ok (.ifnonnull 6, 3) := by decide +kernel
theorem dX7_clear_13 : decode cX7_clear 13 = .ok (.ldc 61, 2) := by decide +kernel
theorem dX7_clear_15 : decode cX7_clear 15 = .ok (.ireturn, 1) := by decide +kernel
theorem dX7_clear_16 : decode cX7_clear 16 = .ok (.aload_n 0, 1) := by decide +kernel
theorem dX7_clear_17 : decode cX7_clear 17 = .ok (.getfield 19, 3) := by decide +kernel
theorem dX7_clear_20 : decode cX7_clear 20 = .ok (.aload_n 0, 1) := by decide +kernel
theorem dX7_clear_21 : decode cX7_clear 21 = .ok (.getfield 12, 3) := by decide +kernel
theorem dX7_clear_24 : decode cX7_clear 24 = .ok (.invokevirtual 69, 3) := by decide +kernel
theorem dX7_clear_27 : decode cX7_clear 27 = .ok (.aload_n 2, 1) := by decide +kernel
theorem dX7_clear_28 : decode cX7_clear 28 = .ok (.invokevirtual 62, 3) := by decide +kernel
theorem dX7_clear_31 : decode cX7_clear 31 = .ok (.istore_n 3, 1) := by decide +kernel
theorem dX7_clear_32 : decode cX7_clear 32 = .ok (.aload_n 2, 1) := by decide +kernel
theorem dX7_clear_33 : decode cX7_clear 33 = .ok (.invokevirtual 97, 3) := by decide +kernel
theorem dX7_clear_36 : decode cX7_clear 36 = .ok (.iload_n 3, 1) := by decide +kernel
theorem dX7_clear_37 : decode cX7_clear 37 = .ok (.ireturn, 1) := by decide +kernel
theorem dX7_set_0 : decode cX7_set 0 = .ok (.iload_n 1, 1) := by decide +kernel
theorem dX7_set_1 : decode cX7_set 1 = .ok (.iconst 0, 1) := by decide +kernel
theorem dX7_set_2 : decode cX7_set 2 = .ok (.iconst 1, 1) := by decide +kernel
theorem dX7_set_3 : decode cX7_set 3 = .ok (.invokestatic 57, 3) := by decide +kernel
theorem dX7_set_6 : decode cX7_set 6 = .ok (.ifCond .eq 15, 3) := by decide +kernel
theorem dX7_set_9 : decode cX7_set 9 = .ok (.iload_n 2, 1) := by decide +kernel
theorem dX7_set_10 : decode cX7_set 10 = .ok (.iconst 1, 1) := by decide +kernel
theorem dX7_set_11 : decode cX7_set 11 = .ok (.iload_n 1, 1) := by decide +kernel
theorem dX7_set_12 : decode cX7_set 12 = .ok (.invokestatic 100, 3) := by decide +kernel
theorem dX7_set_15 : decode cX7_set 15 = .ok (.invokestatic 57, 3) := by decide +kernel
theorem dX7_set_18 : decode cX7_set 18 = .ok (.ifCond .ne 6, 3) := by decide +kernel
theorem dX7_set_21 : decode cX7_set 21 = .ok (.ldc 61, 2) := by decide +kernel
theorem dX7_set_23 : decode cX7_set 23 = .ok (.ireturn, 1) := by decide +kernel
theorem dX7_set_24 : decode cX7_set 24 = .ok (.aload_n 0, 1) := by decide +kernel
theorem dX7_set_25 : decode cX7_set 25 = .ok (.getfield 19, 3) := by decide +kernel
theorem dX7_set_28 : decode cX7_set 28 = .ok (.aload_n 0, 1) := by decide +kernel
theorem dX7_set_29 : decode cX7_set 29 = .ok (.getfield 12, 3) := by decide +kernel
theorem dX7_set_32 : decode cX7_set 32 = .ok (.invokevirtual 69, 3) := by decide +kernel
theorem dX7_set_35 : decode cX7_set 35 = .ok (.aload_n 0, 1) := by decide +kernel
theorem dX7_set_36 : decode cX7_set 36 = .ok (.getfield 12, 3) := by decide +kernel
theorem dX7_set_39 : decode cX7_set 39 = .ok (.getfield 73, 3) := by decide +kernel
theorem dX7_set_42 : decode cX7_set 42 = .ok (.iload_n 1, 1) := by decide +kernel
theorem dX7_set_43 : decode cX7_set 43 = .ok (.invokevirtual 80, 3) := by decide +kernel
theorem dX7_set_46 : decode cX7_set 46 = .ok (.istore_n 3, 1) := by decide +kernel
theorem dX7_set_47 : decode cX7_set 47 = .ok (.aload_n 0, 1) := by decide +kernel
theorem dX7_set_48 : decode cX7_set 48 = .ok (.getfield 12, 3) := by decide +kernel
theorem dX7_set_51 : decode cX7_set 51 = .ok (.getfield 73, 3) := by decide +kernel
theorem dX7_set_54 : decode cX7_set 54 = .ok (.iload_n 1, 1) := by decide +kernel
theorem dX7_set_55 : decode cX7_set 55 = .ok (.iload_n 2, 1) := by decide +kernel
theorem dX7_set_56 : decode cX7_set 56 = .ok (.invokevirtual 103, 3) := by decide +kernel
theorem dX7_set_59 : decode cX7_set 59 = .ok (.iload_n 3, 1) := by decide +kernel
theorem dX7_set_60 : decode cX7_set 60 = .ok (.ireturn, 1) := by decide +kernel
theorem dX7_heapOf_0 : decode cX7_heapOf 0 = .ok (.aload_n 0, 1) := by decide +kernel
theorem dX7_heapOf_1 : decode cX7_heapOf 1 = .ok (.getfield 12, 3) := by decide +kernel
theorem dX7_heapOf_4 : decode cX7_heapOf 4 = .ok (.iload_n 1, 1) := by decide +kernel
theorem dX7_heapOf_5 : decode cX7_heapOf 5 = .ok (.invokevirtual 53, 3) := by decide +kernel
theorem dX7_heapOf_8 : decode cX7_heapOf 8 = .ok (.astore 4, 2) := by decide +kernel
theorem dX7_heapOf_10 : decode cX7_heapOf 10 = .ok (.aload 4, 2) := by decide +kernel
theorem dX7_heapOf_12 : decode cX7_heapOf 12 = .ok (.ifnull 17, 3) := by decide +kernel
theorem dX7_heapOf_15 : decode cX7_heapOf 15 = .ok (.iload_n 2, 1) := by decide +kernel
theorem dX7_heapOf_16 : decode cX7_heapOf 16 = .ok (.ifCond .lt 13, 3) := by decide +kernel
theorem dX7_heapOf_19 : decode cX7_heapOf 19 = .ok (.iload_n 3, 1) := by decide +kernel
theorem dX7_heapOf_20 : decode cX7_heapOf 20 = .ok (.iconst 0, 1) := by decide +kernel
theorem dX7_heapOf_21 : decode cX7_heapOf 21 = .ok (.bipush 6, 2) := by decide +kernel
theorem dX7_heapOf_23 : decode cX7_heapOf 23 = .ok (.invokestatic 57, 3) := by decide +kernel
theorem dX7_heapOf_26 : decode cX7_heapOf 26 = .ok (.ifCond .ne 6, 3) := by decide +kernel
theorem dX7_heapOf_29 : decode cX7_heapOf 29 = .ok (.ldc 61, 2) := by decide +kernel
theorem dX7_heapOf_31 : decode cX7_heapOf 31 = .ok (.ireturn, 1) := by decide +kernel
theorem dX7_heapOf_32 : decode cX7_heapOf 32 = .ok (.aload 4, 2) := by decide +kernel
theorem dX7_heapOf_34 : decode cX7_heapOf 34 = .ok (.getfield 87, 3) := by decide +kernel
theorem dX7_heapOf_37 : decode cX7_heapOf 37 = .ok (.astore 5, 2) := by decide +kernel
theorem dX7_heapOf_39 : decode cX7_heapOf 39 = .ok (.iload_n 2, 1) := by decide +kernel
theorem dX7_heapOf_40 : decode cX7_heapOf 40 = .ok (.aload 5, 2) := by decide +kernel
theorem dX7_heapOf_42 : decode cX7_heapOf 42 = .ok (.invokevirtual 90, 3) := by decide +kernel
theorem dX7_heapOf_45 : decode cX7_heapOf 45 = .ok (.if_icmp .lt 6, 3) := by decide +kernel
theorem dX7_heapOf_48 : decode cX7_heapOf 48 = .ok (.ldc 107, 2) := by decide +kernel
theorem dX7_heapOf_50 : decode cX7_heapOf 50 = .ok (.ireturn, 1) := by decide +kernel
theorem dX7_heapOf_51 : decode cX7_heapOf 51 = .ok (.iload_n 3, 1) := by decide +kernel
theorem dX7_heapOf_52 : decode cX7_heapOf 52 = .ok (.tableswitch 94 0 5 #[40, 50, 60, 70, 80, 87], 40) := by decide +kernel
theorem dX7_heapOf_92 : decode cX7_heapOf 92 = .ok (.aload 5, 2) := by decide +kernel
theorem dX7_heapOf_94 : decode cX7_heapOf 94 = .ok (.getfield 108, 3) := by decide +kernel
theorem dX7_heapOf_97 : decode cX7_heapOf 97 = .ok (.iload_n 2, 1) := by decide +kernel
theorem dX7_heapOf_98 : decode cX7_heapOf 98 = .ok (.invokevirtual 80, 3) := by decide +kernel
theorem dX7_heapOf_101 : decode cX7_heapOf 101 = .ok (.ireturn, 1) := by decide +kernel
theorem dX7_heapOf_102 : decode cX7_heapOf 102 = .ok (.aload 5, 2) := by decide +kernel
theorem dX7_heapOf_104 : decode cX7_heapOf 104 = .ok (.getfield 111, 3) := by decide +kernel
theorem dX7_heapOf_107 : decode cX7_heapOf 107 = .ok (.iload_n 2, 1) := by decide +kernel
theorem dX7_heapOf_108 : decode cX7_heapOf 108 = .ok (.invokevirtual 80, 3) := by decide +kernel
theorem dX7_heapOf_111 : decode cX7_heapOf 111 = .ok (.ireturn, 1) := by decide +kernel
theorem dX7_heapOf_112 : decode cX7_heapOf 112 = .ok (.aload 5, 2) := by decide +kernel
theorem dX7_heapOf_114 : decode cX7_heapOf 114 = .ok (.getfield 114, 3) := by decide +kernel
theorem dX7_heapOf_117 : decode cX7_heapOf 117 = .ok (.iload_n 2, 1) := by decide +kernel
theorem dX7_heapOf_118 : decode cX7_heapOf 118 = .ok (.invokevirtual 80, 3) := by decide +kernel
theorem dX7_heapOf_121 : decode cX7_heapOf 121 = .ok (.ireturn, 1) := by decide +kernel
theorem dX7_heapOf_122 : decode cX7_heapOf 122 = .ok (.aload 5, 2) := by decide +kernel
theorem dX7_heapOf_124 : decode cX7_heapOf 124 = .ok (.getfield 117, 3) := by decide +kernel
theorem dX7_heapOf_127 : decode cX7_heapOf 127 = .ok (.iload_n 2, 1) := by decide +kernel
theorem dX7_heapOf_128 : decode cX7_heapOf 128 = .ok (.invokevirtual 80, 3) := by decide +kernel
theorem dX7_heapOf_131 : decode cX7_heapOf 131 = .ok (.ireturn, 1) := by decide +kernel
theorem dX7_heapOf_132 : decode cX7_heapOf 132 = .ok (.aload 5, 2) := by decide +kernel
theorem dX7_heapOf_134 : decode cX7_heapOf 134 = .ok (.iload_n 2, 1) := by decide +kernel
theorem dX7_heapOf_135 : decode cX7_heapOf 135 = .ok (.invokevirtual 120, 3) := by decide +kernel
theorem dX7_heapOf_138 : decode cX7_heapOf 138 = .ok (.ireturn, 1) := by decide +kernel
theorem dX7_heapOf_139 : decode cX7_heapOf 139 = .ok (.aload 5, 2) := by decide +kernel
theorem dX7_heapOf_141 : decode cX7_heapOf 141 = .ok (.iload_n 2, 1) := by decide +kernel
theorem dX7_heapOf_142 : decode cX7_heapOf 142 = .ok (.invokevirtual 123, 3) := by decide +kernel
theorem dX7_heapOf_145 : decode cX7_heapOf 145 = .ok (.ireturn, 1) := by decide +kernel
theorem dX7_heapOf_146 : decode cX7_heapOf 146 = .ok (.aload 5, 2) := by decide +kernel
theorem dX7_heapOf_148 : decode cX7_heapOf 148 = .ok (.iload_n 2, 1) := by decide +kernel
theorem dX7_heapOf_149 : decode cX7_heapOf 149 = .ok (.invokevirtual 126, 3) := by decide +kernel
theorem dX7_heapOf_152 : decode cX7_heapOf 152 = .ok (.invokestatic 130, 3) := by decide +kernel
theorem dX7_heapOf_155 : decode cX7_heapOf 155 = .ok (.ireturn, 1) := by decide +kernel
theorem dX7_bufferOf_0 : decode cX7_bufferOf 0 = .ok (.aload_n 0, 1) := by decide +kernel
theorem dX7_bufferOf_1 : decode cX7_bufferOf 1 = .ok (.getfield 12, 3) := by decide +kernel
theorem dX7_bufferOf_4 : decode cX7_bufferOf 4 = .ok (.iload_n 1, 1) := by decide +kernel
theorem dX7_bufferOf_5 : decode cX7_bufferOf 5 = .ok (.invokevirtual 53, 3) := by decide +kernel
theorem dX7_bufferOf_8 : decode cX7_bufferOf 8 = .ok (.astore_n 3, 1) := by decide +kernel
theorem dX7_bufferOf_9 : decode cX7_bufferOf 9 = .ok (.aload_n 3, 1) := by decide +kernel
theorem dX7_bufferOf_10 : decode cX7_bufferOf 10 = .ok (.ifnull 7, 3) := by decide +kernel
theorem dX7_bufferOf_13 : decode cX7_bufferOf 13 = .ok (.iload_n 2, 1) := by decide +kernel
theorem dX7_bufferOf_14 : decode cX7_bufferOf 14 = .ok (.ifCond .ge 6, 3) := by decide +kernel
theorem dX7_bufferOf_17 : decode cX7_bufferOf 17 = .ok (.ldc 61, 2) := by decide +kernel
theorem dX7_bufferOf_19 : decode cX7_bufferOf 19 = .ok (.ireturn, 1) := by decide +kernel
theorem dX7_bufferOf_20 : decode cX7_bufferOf 20 = .ok (.iload_n 2, 1) := by decide +kernel
theorem dX7_bufferOf_21 : decode cX7_bufferOf 21 = .ok (.aload_n 3, 1) := by decide +kernel
theorem dX7_bufferOf_22 : decode cX7_bufferOf 22 = .ok (.getfield 134, 3) := by decide +kernel
theorem dX7_bufferOf_25 : decode cX7_bufferOf 25 = .ok (.invokevirtual 137, 3) := by decide +kernel
theorem dX7_bufferOf_28 : decode cX7_bufferOf 28 = .ok (.if_icmp .ge 14, 3) := by decide +kernel
theorem dX7_bufferOf_31 : decode cX7_bufferOf 31 = .ok (.aload_n 3, 1) := by decide +kernel
theorem dX7_bufferOf_32 : decode cX7_bufferOf 32 = .ok (.getfield 134, 3) := by decide +kernel
theorem dX7_bufferOf_35 : decode cX7_bufferOf 35 = .ok (.iload_n 2, 1) := by decide +kernel
theorem dX7_bufferOf_36 : decode cX7_bufferOf 36 = .ok (.invokevirtual 80, 3) := by decide +kernel
theorem dX7_bufferOf_39 : decode cX7_bufferOf 39 = .ok (.goto 5, 3) := by decide +kernel
theorem dX7_bufferOf_42 : decode cX7_bufferOf 42 = .ok (.ldc 107, 2) := by decide +kernel
theorem dX7_bufferOf_44 : decode cX7_bufferOf 44 = .ok (.ireturn, 1) := by decide +kernel
theorem dX7_digestOf_0 : decode cX7_digestOf 0 = .ok (.aload_n 0, 1) := by decide +kernel
theorem dX7_digestOf_1 : decode cX7_digestOf 1 = .ok (.getfield 12, 3) := by decide +kernel
theorem dX7_digestOf_4 : decode cX7_digestOf 4 = .ok (.iload_n 1, 1) := by decide +kernel
theorem dX7_digestOf_5 : decode cX7_digestOf 5 = .ok (.invokevirtual 53, 3) := by decide +kernel
theorem dX7_digestOf_8 : decode cX7_digestOf 8 = .ok (.astore_n 3, 1) := by decide +kernel
theorem dX7_digestOf_9 : decode cX7_digestOf 9 = .ok (.aload_n 3, 1) := by decide +kernel
theorem dX7_digestOf_10 : decode cX7_digestOf 10 = .ok (.ifnull 13, 3) := by decide +kernel
theorem dX7_digestOf_13 : decode cX7_digestOf 13 = .ok (.iload_n 2, 1) := by decide +kernel
theorem dX7_digestOf_14 : decode cX7_digestOf 14 = .ok (.iconst 0, 1) := by decide +kernel
theorem dX7_digestOf_15 : decode cX7_digestOf 15 = .ok (.bipush 8, 2) := by decide +kernel
theorem dX7_digestOf_17 : decode cX7_digestOf 17 = .ok (.invokestatic 57, 3) := by decide +kernel
theorem dX7_digestOf_20 : decode cX7_digestOf 20 = .ok (.ifCond .ne 6, 3) := by decide +kernel
theorem dX7_digestOf_23 : decode cX7_digestOf 23 = .ok (.ldc 61, 2) := by decide +kernel
theorem dX7_digestOf_25 : decode cX7_digestOf 25 = .ok (.ireturn, 1) := by decide +kernel
theorem dX7_digestOf_26 : decode cX7_digestOf 26 = .ok (.iload_n 2, 1) := by decide +kernel
theorem dX7_digestOf_27 : decode cX7_digestOf 27 = .ok (.tableswitch 144 0 7 #[45, 50, 58, 66, 83, 100, 105, 118], 45) := by decide +kernel
theorem dX7_digestOf_72 : decode cX7_digestOf 72 = .ok (.aload_n 3, 1) := by decide +kernel
theorem dX7_digestOf_73 : decode cX7_digestOf 73 = .ok (.invokevirtual 62, 3) := by decide +kernel
theorem dX7_digestOf_76 : decode cX7_digestOf 76 = .ok (.ireturn, 1) := by decide +kernel
theorem dX7_digestOf_77 : decode cX7_digestOf 77 = .ok (.aload_n 3, 1) := by decide +kernel
theorem dX7_digestOf_78 : decode cX7_digestOf 78 = .ok (.getfield 87, 3) := by decide +kernel
theorem dX7_digestOf_81 : decode cX7_digestOf 81 = .ok (.invokevirtual 90, 3) := by decide +kernel
theorem dX7_digestOf_84 : decode cX7_digestOf 84 = .ok (.ireturn, 1) := by decide +kernel
theorem dX7_digestOf_85 : decode cX7_digestOf 85 = .ok (.aload_n 3, 1) := by decide +kernel
theorem dX7_digestOf_86 : decode cX7_digestOf 86 = .ok (.getfield 134, 3) := by decide +kernel
theorem dX7_digestOf_89 : decode cX7_digestOf 89 = .ok (.invokevirtual 137, 3) := by decide +kernel
theorem dX7_digestOf_92 : decode cX7_digestOf 92 = .ok (.ireturn, 1) := by decide +kernel
theorem dX7_digestOf_93 : decode cX7_digestOf 93 = .ok (.aload_n 3, 1) := by decide +kernel
theorem dX7_digestOf_94 : decode cX7_digestOf 94 = .ok (.invokevirtual 62, 3) := by decide +kernel
theorem dX7_digestOf_97 : decode cX7_digestOf 97 = .ok (.ifCond .ne 8, 3) := by decide +kernel
theorem dX7_digestOf_100 : decode cX7_digestOf 100 = .ok (.ldc 107, 2) := by decide +kernel
theorem dX7_digestOf_102 : decode cX7_digestOf 102 = .ok (.goto 7, 3) := by decide +kernel
theorem dX7_digestOf_105 : decode cX7_digestOf 105 = .ok (.aload_n 3, 1) := by decide +kernel
theorem dX7_digestOf_106 : decode cX7_digestOf 106 = .ok (.invokevirtual 140, 3) := by decide +kernel
theorem dX7_digestOf_109 : decode cX7_digestOf 109 = .ok (.ireturn, 1) := by decide +kernel
theorem dX7_digestOf_110 : decode cX7_digestOf 110 = .ok (.aload_n 3, 1) := by decide +kernel
theorem dX7_digestOf_111 : decode cX7_digestOf 111 = .ok (.invokevirtual 62, 3) := by decide +kernel
theorem dX7_digestOf_114 : decode cX7_digestOf 114 = .ok (.ifCond .ne 8, 3) := by decide +kernel
theorem dX7_digestOf_117 : decode cX7_digestOf 117 = .ok (.ldc 107, 2) := by decide +kernel
theorem dX7_digestOf_119 : decode cX7_digestOf 119 = .ok (.goto 7, 3) := by decide +kernel
theorem dX7_digestOf_122 : decode cX7_digestOf 122 = .ok (.aload_n 3, 1) := by decide +kernel
theorem dX7_digestOf_123 : decode cX7_digestOf 123 = .ok (.invokevirtual 143, 3) := by decide +kernel
theorem dX7_digestOf_126 : decode cX7_digestOf 126 = .ok (.ireturn, 1) := by decide +kernel
theorem dX7_digestOf_127 : decode cX7_digestOf 127 = .ok (.aload_n 3, 1) := by decide +kernel
theorem dX7_digestOf_128 : decode cX7_digestOf 128 = .ok (.invokevirtual 146, 3) := by decide +kernel
theorem dX7_digestOf_131 : decode cX7_digestOf 131 = .ok (.ireturn, 1) := by decide +kernel
theorem dX7_digestOf_132 : decode cX7_digestOf 132 = .ok (.aload_n 0, 1) := by decide +kernel
theorem dX7_digestOf_133 : decode cX7_digestOf 133 = .ok (.aload_n 3, 1) := by decide +kernel
theorem dX7_digestOf_134 : decode cX7_digestOf 134 = .ok (.invokevirtual 149, 3) := by decide +kernel
theorem dX7_digestOf_137 : decode cX7_digestOf 137 = .ok (.aload_n 0, 1) := by decide +kernel
theorem dX7_digestOf_138 : decode cX7_digestOf 138 = .ok (.getfield 49, 3) := by decide +kernel
theorem dX7_digestOf_141 : decode cX7_digestOf 141 = .ok (.invokevirtual 90, 3) := by decide +kernel
theorem dX7_digestOf_144 : decode cX7_digestOf 144 = .ok (.ireturn, 1) := by decide +kernel
theorem dX7_digestOf_145 : decode cX7_digestOf 145 = .ok (.aload_n 3, 1) := by decide +kernel
theorem dX7_digestOf_146 : decode cX7_digestOf 146 = .ok (.getfield 87, 3) := by decide +kernel
theorem dX7_digestOf_149 : decode cX7_digestOf 149 = .ok (.invokevirtual 90, 3) := by decide +kernel
theorem dX7_digestOf_152 : decode cX7_digestOf 152 = .ok (.ifCond .ne 8, 3) := by decide +kernel
theorem dX7_digestOf_155 : decode cX7_digestOf 155 = .ok (.ldc 107, 2) := by decide +kernel
theorem dX7_digestOf_157 : decode cX7_digestOf 157 = .ok (.goto 13, 3) := by decide +kernel
theorem dX7_digestOf_160 : decode cX7_digestOf 160 = .ok (.aload_n 3, 1) := by decide +kernel
theorem dX7_digestOf_161 : decode cX7_digestOf 161 = .ok (.getfield 87, 3) := by decide +kernel
theorem dX7_digestOf_164 : decode cX7_digestOf 164 = .ok (.getfield 108, 3) := by decide +kernel
theorem dX7_digestOf_167 : decode cX7_digestOf 167 = .ok (.invokevirtual 153, 3) := by decide +kernel
theorem dX7_digestOf_170 : decode cX7_digestOf 170 = .ok (.ireturn, 1) := by decide +kernel
theorem dX7_digestOf_171 : decode cX7_digestOf 171 = .ok (.aload_n 3, 1) := by decide +kernel
theorem dX7_digestOf_172 : decode cX7_digestOf 172 = .ok (.getfield 154, 3) := by decide +kernel
theorem dX7_digestOf_175 : decode cX7_digestOf 175 = .ok (.ireturn, 1) := by decide +kernel
theorem dX7_quantile_0 : decode cX7_quantile 0 = .ok (.aload_n 0, 1) := by decide +kernel
theorem dX7_quantile_1 : decode cX7_quantile 1 = .ok (.getfield 12, 3) := by decide +kernel
theorem dX7_quantile_4 : decode cX7_quantile 4 = .ok (.iload_n 1, 1) := by decide +kernel
theorem dX7_quantile_5 : decode cX7_quantile 5 = .ok (.invokevirtual 53, 3) := by decide +kernel
theorem dX7_quantile_8 : decode cX7_quantile 8 = .ok (.astore_n 3, 1) := by decide +kernel
theorem dX7_quantile_9 : decode cX7_quantile 9 = .ok (.aload_n 3, 1) := by decide +kernel
theorem dX7_quantile_10 : decode cX7_quantile 10 = .ok (.ifnull 14, 3) := by decide +kernel
theorem dX7_quantile_13 : decode cX7_quantile 13 = .ok (.iload_n 2, 1) := by decide +kernel
theorem dX7_quantile_14 : decode cX7_quantile 14 = .ok (.iconst 0, 1) := by decide +kernel
theorem dX7_quantile_15 : decode cX7_quantile 15 = .ok (.sipush 1000, 3) := by decide +kernel
theorem dX7_quantile_18 : decode cX7_quantile 18 = .ok (.invokestatic 57, 3) := by decide +kernel
theorem dX7_quantile_21 : decode cX7_quantile 21 = .ok (.ifCond .ne 6, 3) := by decide +kernel
theorem dX7_quantile_24 : decode cX7_quantile 24 = .ok (.ldc 61, 2) := by decide +kernel
theorem dX7_quantile_26 : decode cX7_quantile 26 = .ok (.ireturn, 1) := by decide +kernel
theorem dX7_quantile_27 : decode cX7_quantile 27 = .ok (.aload_n 3, 1) := by decide +kernel
theorem dX7_quantile_28 : decode cX7_quantile 28 = .ok (.invokevirtual 62, 3) := by decide +kernel
theorem dX7_quantile_31 : decode cX7_quantile 31 = .ok (.ifCond .ne 6, 3) := by decide +kernel
theorem dX7_quantile_34 : decode cX7_quantile 34 = .ok (.ldc 158, 2) := by decide +kernel
theorem dX7_quantile_36 : decode cX7_quantile 36 = .ok (.ireturn, 1) := by decide +kernel
theorem dX7_quantile_37 : decode cX7_quantile 37 = .ok (.aload_n 0, 1) := by decide +kernel
theorem dX7_quantile_38 : decode cX7_quantile 38 = .ok (.aload_n 3, 1) := by decide +kernel
theorem dX7_quantile_39 : decode cX7_quantile 39 = .ok (.invokevirtual 149, 3) := by decide +kernel
theorem dX7_quantile_42 : decode cX7_quantile 42 = .ok (.aload_n 0, 1) := by decide +kernel
theorem dX7_quantile_43 : decode cX7_quantile 43 = .ok (.getfield 49, 3) := by decide +kernel
theorem dX7_quantile_46 : decode cX7_quantile 46 = .ok (.iload_n 2, 1) := by decide +kernel
theorem dX7_quantile_47 : decode cX7_quantile 47 = .ok (.invokevirtual 159, 3) := by decide +kernel
theorem dX7_quantile_50 : decode cX7_quantile 50 = .ok (.ireturn, 1) := by decide +kernel
theorem dX7_truth_0 : decode cX7_truth 0 = .ok (.aload_n 0, 1) := by decide +kernel
theorem dX7_truth_1 : decode cX7_truth 1 = .ok (.getfield 12, 3) := by decide +kernel
theorem dX7_truth_4 : decode cX7_truth 4 = .ok (.iload_n 1, 1) := by decide +kernel
theorem dX7_truth_5 : decode cX7_truth 5 = .ok (.invokevirtual 53, 3) := by decide +kernel
theorem dX7_truth_8 : decode cX7_truth 8 = .ok (.astore_n 3, 1) := by decide +kernel
theorem dX7_truth_9 : decode cX7_truth 9 = .ok (.aload_n 3, 1) := by decide +kernel
theorem dX7_truth_10 : decode cX7_truth 10 = .ok (.ifnull 14, 3) := by decide +kernel
theorem dX7_truth_13 : decode cX7_truth 13 = .ok (.iload_n 2, 1) := by decide +kernel
theorem dX7_truth_14 : decode cX7_truth 14 = .ok (.iconst 0, 1) := by decide +kernel
theorem dX7_truth_15 : decode cX7_truth 15 = .ok (.sipush 1000, 3) := by decide +kernel
theorem dX7_truth_18 : decode cX7_truth 18 = .ok (.invokestatic 57, 3) := by decide +kernel
theorem dX7_truth_21 : decode cX7_truth 21 = .ok (.ifCond .ne 6, 3) := by decide +kernel
theorem dX7_truth_24 : decode cX7_truth 24 = .ok (.ldc 61, 2) := by decide +kernel
theorem dX7_truth_26 : decode cX7_truth 26 = .ok (.ireturn, 1) := by decide +kernel
theorem dX7_truth_27 : decode cX7_truth 27 = .ok (.aload_n 3, 1) := by decide +kernel
theorem dX7_truth_28 : decode cX7_truth 28 = .ok (.invokevirtual 62, 3) := by decide +kernel
theorem dX7_truth_31 : decode cX7_truth 31 = .ok (.ifCond .ne 8, 3) := by decide +kernel
theorem dX7_truth_34 : decode cX7_truth 34 = .ok (.ldc 158, 2) := by decide +kernel
theorem dX7_truth_36 : decode cX7_truth 36 = .ok (.goto 8, 3) := by decide +kernel
theorem dX7_truth_39 : decode cX7_truth 39 = .ok (.aload_n 3, 1) := by decide +kernel
theorem dX7_truth_40 : decode cX7_truth 40 = .ok (.iload_n 2, 1) := by decide +kernel
theorem dX7_truth_41 : decode cX7_truth 41 = .ok (.invokevirtual 162, 3) := by decide +kernel
theorem dX7_truth_44 : decode cX7_truth 44 = .ok (.ireturn, 1) := by decide +kernel
theorem dX7_worst_0 : decode cX7_worst 0 = .ok (.aload_n 0, 1) := by decide +kernel
theorem dX7_worst_1 : decode cX7_worst 1 = .ok (.getfield 12, 3) := by decide +kernel
theorem dX7_worst_4 : decode cX7_worst 4 = .ok (.iload_n 1, 1) := by decide +kernel
theorem dX7_worst_5 : decode cX7_worst 5 = .ok (.invokevirtual 53, 3) := by decide +kernel
theorem dX7_worst_8 : decode cX7_worst 8 = .ok (.astore_n 3, 1) := by decide +kernel
theorem dX7_worst_9 : decode cX7_worst 9 = .ok (.aload_n 3, 1) := by decide +kernel
theorem dX7_worst_10 : decode cX7_worst 10 = .ok (.ifnull 12, 3) := by decide +kernel
theorem dX7_worst_13 : decode cX7_worst 13 = .ok (.iload_n 2, 1) := by decide +kernel
theorem dX7_worst_14 : decode cX7_worst 14 = .ok (.iconst 0, 1) := by decide +kernel
theorem dX7_worst_15 : decode cX7_worst 15 = .ok (.iconst 1, 1) := by decide +kernel
theorem dX7_worst_16 : decode cX7_worst 16 = .ok (.invokestatic 57, 3) := by decide +kernel
theorem dX7_worst_19 : decode cX7_worst 19 = .ok (.ifCond .ne 6, 3) := by decide +kernel
theorem dX7_worst_22 : decode cX7_worst 22 = .ok (.ldc 61, 2) := by decide +kernel
theorem dX7_worst_24 : decode cX7_worst 24 = .ok (.ireturn, 1) := by decide +kernel
theorem dX7_worst_25 : decode cX7_worst 25 = .ok (.aload_n 3, 1) := by decide +kernel
theorem dX7_worst_26 : decode cX7_worst 26 = .ok (.invokevirtual 62, 3) := by decide +kernel
theorem dX7_worst_29 : decode cX7_worst 29 = .ok (.ifCond .ne 6, 3) := by decide +kernel
theorem dX7_worst_32 : decode cX7_worst 32 = .ok (.ldc 158, 2) := by decide +kernel
theorem dX7_worst_34 : decode cX7_worst 34 = .ok (.ireturn, 1) := by decide +kernel
theorem dX7_worst_35 : decode cX7_worst 35 = .ok (.aload_n 0, 1) := by decide +kernel
theorem dX7_worst_36 : decode cX7_worst 36 = .ok (.aload_n 3, 1) := by decide +kernel
theorem dX7_worst_37 : decode cX7_worst 37 = .ok (.invokevirtual 149, 3) := by decide +kernel
theorem dX7_worst_40 : decode cX7_worst 40 = .ok (.iconst (-1), 1) := by decide +kernel
theorem dX7_worst_41 : decode cX7_worst 41 = .ok (.istore 4, 2) := by decide +kernel
theorem dX7_worst_43 : decode cX7_worst 43 = .ok (.iconst 0, 1) := by decide +kernel
theorem dX7_worst_44 : decode cX7_worst 44 = .ok (.istore 5, 2) := by decide +kernel
theorem dX7_worst_46 : decode cX7_worst 46 = .ok (.iconst 0, 1) := by decide +kernel
theorem dX7_worst_47 : decode cX7_worst 47 = .ok (.istore 6, 2) := by decide +kernel
theorem dX7_worst_49 : decode cX7_worst 49 = .ok (.iload 6, 2) := by decide +kernel
theorem dX7_worst_51 : decode cX7_worst 51 = .ok (.sipush 1000, 3) := by decide +kernel
theorem dX7_worst_54 : decode cX7_worst 54 = .ok (.if_icmp .gt 45, 3) := by decide +kernel
theorem dX7_worst_57 : decode cX7_worst 57 = .ok (.aload_n 0, 1) := by decide +kernel
theorem dX7_worst_58 : decode cX7_worst 58 = .ok (.getfield 49, 3) := by decide +kernel
theorem dX7_worst_61 : decode cX7_worst 61 = .ok (.iload 6, 2) := by decide +kernel
theorem dX7_worst_63 : decode cX7_worst 63 = .ok (.invokevirtual 159, 3) := by decide +kernel
theorem dX7_worst_66 : decode cX7_worst 66 = .ok (.aload_n 3, 1) := by decide +kernel
theorem dX7_worst_67 : decode cX7_worst 67 = .ok (.iload 6, 2) := by decide +kernel
theorem dX7_worst_69 : decode cX7_worst 69 = .ok (.invokevirtual 162, 3) := by decide +kernel
theorem dX7_worst_72 : decode cX7_worst 72 = .ok (.isub, 1) := by decide +kernel
theorem dX7_worst_73 : decode cX7_worst 73 = .ok (.invokestatic 165, 3) := by decide +kernel
theorem dX7_worst_76 : decode cX7_worst 76 = .ok (.istore 7, 2) := by decide +kernel
theorem dX7_worst_78 : decode cX7_worst 78 = .ok (.iload 7, 2) := by decide +kernel
theorem dX7_worst_80 : decode cX7_worst 80 = .ok (.iload 4, 2) := by decide +kernel
theorem dX7_worst_82 : decode cX7_worst 82 = .ok (.if_icmp .le 11, 3) := by decide +kernel
theorem dX7_worst_85 : decode cX7_worst 85 = .ok (.iload 7, 2) := by decide +kernel
theorem dX7_worst_87 : decode cX7_worst 87 = .ok (.istore 4, 2) := by decide +kernel
theorem dX7_worst_89 : decode cX7_worst 89 = .ok (.iload 6, 2) := by decide +kernel
theorem dX7_worst_91 : decode cX7_worst 91 = .ok (.istore 5, 2) := by decide +kernel
theorem dX7_worst_93 : decode cX7_worst 93 = .ok (.iinc 6 100, 3) := by decide +kernel
theorem dX7_worst_96 : decode cX7_worst 96 = .ok (.goto (-47), 3) := by decide +kernel
theorem dX7_worst_99 : decode cX7_worst 99 = .ok (.iload_n 2, 1) := by decide +kernel
theorem dX7_worst_100 : decode cX7_worst 100 = .ok (.ifCond .ne 8, 3) := by decide +kernel
theorem dX7_worst_103 : decode cX7_worst 103 = .ok (.iload 5, 2) := by decide +kernel
theorem dX7_worst_105 : decode cX7_worst 105 = .ok (.goto 5, 3) := by decide +kernel
theorem dX7_worst_108 : decode cX7_worst 108 = .ok (.iload 4, 2) := by decide +kernel
theorem dX7_worst_110 : decode cX7_worst 110 = .ok (.ireturn, 1) := by decide +kernel
theorem dX7_rank_0 : decode cX7_rank 0 = .ok (.aload_n 0, 1) := by decide +kernel
theorem dX7_rank_1 : decode cX7_rank 1 = .ok (.getfield 12, 3) := by decide +kernel
theorem dX7_rank_4 : decode cX7_rank 4 = .ok (.iload_n 1, 1) := by decide +kernel
theorem dX7_rank_5 : decode cX7_rank 5 = .ok (.invokevirtual 53, 3) := by decide +kernel
theorem dX7_rank_8 : decode cX7_rank 8 = .ok (.astore_n 3, 1) := by decide +kernel
theorem dX7_rank_9 : decode cX7_rank 9 = .ok (.aload_n 3, 1) := by decide +kernel
theorem dX7_rank_10 : decode cX7_rank 10 = .ok (.ifnull 14, 3) := by decide +kernel
theorem dX7_rank_13 : decode cX7_rank 13 = .ok (.iload_n 2, 1) := by decide +kernel
theorem dX7_rank_14 : decode cX7_rank 14 = .ok (.iconst 0, 1) := by decide +kernel
theorem dX7_rank_15 : decode cX7_rank 15 = .ok (.sipush 9999, 3) := by decide +kernel
theorem dX7_rank_18 : decode cX7_rank 18 = .ok (.invokestatic 57, 3) := by decide +kernel
theorem dX7_rank_21 : decode cX7_rank 21 = .ok (.ifCond .ne 6, 3) := by decide +kernel
theorem dX7_rank_24 : decode cX7_rank 24 = .ok (.ldc 61, 2) := by decide +kernel
theorem dX7_rank_26 : decode cX7_rank 26 = .ok (.ireturn, 1) := by decide +kernel
theorem dX7_rank_27 : decode cX7_rank 27 = .ok (.aload_n 3, 1) := by decide +kernel
theorem dX7_rank_28 : decode cX7_rank 28 = .ok (.invokevirtual 62, 3) := by decide +kernel
theorem dX7_rank_31 : decode cX7_rank 31 = .ok (.ifCond .ne 6, 3) := by decide +kernel
theorem dX7_rank_34 : decode cX7_rank 34 = .ok (.ldc 158, 2) := by decide +kernel
theorem dX7_rank_36 : decode cX7_rank 36 = .ok (.ireturn, 1) := by decide +kernel
theorem dX7_rank_37 : decode cX7_rank 37 = .ok (.aload_n 0, 1) := by decide +kernel
theorem dX7_rank_38 : decode cX7_rank 38 = .ok (.aload_n 3, 1) := by decide +kernel
theorem dX7_rank_39 : decode cX7_rank 39 = .ok (.invokevirtual 149, 3) := by decide +kernel
theorem dX7_rank_42 : decode cX7_rank 42 = .ok (.aload_n 0, 1) := by decide +kernel
theorem dX7_rank_43 : decode cX7_rank 43 = .ok (.getfield 49, 3) := by decide +kernel
theorem dX7_rank_46 : decode cX7_rank 46 = .ok (.iload_n 2, 1) := by decide +kernel
theorem dX7_rank_47 : decode cX7_rank 47 = .ok (.invokevirtual 170, 3) := by decide +kernel
theorem dX7_rank_50 : decode cX7_rank 50 = .ok (.ireturn, 1) := by decide +kernel
theorem dX7_width_0 : decode cX7_width 0 = .ok (.aload_n 0, 1) := by decide +kernel
theorem dX7_width_1 : decode cX7_width 1 = .ok (.getfield 12, 3) := by decide +kernel
theorem dX7_width_4 : decode cX7_width 4 = .ok (.iload_n 1, 1) := by decide +kernel
theorem dX7_width_5 : decode cX7_width 5 = .ok (.invokevirtual 53, 3) := by decide +kernel
theorem dX7_width_8 : decode cX7_width 8 = .ok (.astore_n 3, 1) := by decide +kernel
theorem dX7_width_9 : decode cX7_width 9 = .ok (.aload_n 3, 1) := by decide +kernel
theorem dX7_width_10 : decode cX7_width 10 = .ok (.ifnull 14, 3) := by decide +kernel
theorem dX7_width_13 : decode cX7_width 13 = .ok (.iload_n 2, 1) := by decide +kernel
theorem dX7_width_14 : decode cX7_width 14 = .ok (.iconst 0, 1) := by decide +kernel
theorem dX7_width_15 : decode cX7_width 15 = .ok (.sipush 1000, 3) := by decide +kernel
theorem dX7_width_18 : decode cX7_width 18 = .ok (.invokestatic 57, 3) := by decide +kernel
theorem dX7_width_21 : decode cX7_width 21 = .ok (.ifCond .ne 6, 3) := by decide +kernel
theorem dX7_width_24 : decode cX7_width 24 = .ok (.ldc 61, 2) := by decide +kernel
theorem dX7_width_26 : decode cX7_width 26 = .ok (.ireturn, 1) := by decide +kernel
theorem dX7_width_27 : decode cX7_width 27 = .ok (.aload_n 3, 1) := by decide +kernel
theorem dX7_width_28 : decode cX7_width 28 = .ok (.invokevirtual 62, 3) := by decide +kernel
theorem dX7_width_31 : decode cX7_width 31 = .ok (.ifCond .ne 6, 3) := by decide +kernel
theorem dX7_width_34 : decode cX7_width 34 = .ok (.ldc 158, 2) := by decide +kernel
theorem dX7_width_36 : decode cX7_width 36 = .ok (.ireturn, 1) := by decide +kernel
theorem dX7_width_37 : decode cX7_width 37 = .ok (.aload_n 0, 1) := by decide +kernel
theorem dX7_width_38 : decode cX7_width 38 = .ok (.aload_n 3, 1) := by decide +kernel
theorem dX7_width_39 : decode cX7_width 39 = .ok (.invokevirtual 149, 3) := by decide +kernel
theorem dX7_width_42 : decode cX7_width 42 = .ok (.aload_n 0, 1) := by decide +kernel
theorem dX7_width_43 : decode cX7_width 43 = .ok (.getfield 49, 3) := by decide +kernel
theorem dX7_width_46 : decode cX7_width 46 = .ok (.iload_n 2, 1) := by decide +kernel
theorem dX7_width_47 : decode cX7_width 47 = .ok (.aload_n 3, 1) := by decide +kernel
theorem dX7_width_48 : decode cX7_width 48 = .ok (.invokevirtual 62, 3) := by decide +kernel
theorem dX7_width_51 : decode cX7_width 51 = .ok (.invokestatic 173, 3) := by decide +kernel
theorem dX7_width_54 : decode cX7_width 54 = .ok (.invokevirtual 177, 3) := by decide +kernel
theorem dX7_width_57 : decode cX7_width 57 = .ok (.ireturn, 1) := by decide +kernel
theorem dX7_settingFor_0 : decode cX7_settingFor 0 = .ok (.aload_n 0, 1) := by decide +kernel
theorem dX7_settingFor_1 : decode cX7_settingFor 1 = .ok (.getfield 12, 3) := by decide +kernel
theorem dX7_settingFor_4 : decode cX7_settingFor 4 = .ok (.iload_n 1, 1) := by decide +kernel
theorem dX7_settingFor_5 : decode cX7_settingFor 5 = .ok (.invokevirtual 53, 3) := by decide +kernel
theorem dX7_settingFor_8 : decode cX7_settingFor 8 = .ok (.astore_n 3, 1) := by decide +kernel
theorem dX7_settingFor_9 : decode cX7_settingFor 9 = .ok (.aload_n 3, 1) := by decide +kernel
theorem dX7_settingFor_10 : decode cX7_settingFor 10 = .ok (.ifnull 13, 3) := by decide +kernel
theorem dX7_settingFor_13 : decode cX7_settingFor 13 = .ok (.iload_n 2, 1) := by decide +kernel
theorem dX7_settingFor_14 : decode cX7_settingFor 14 = .ok (.iconst 1, 1) := by decide +kernel
theorem dX7_settingFor_15 : decode cX7_settingFor 15 = .ok (.bipush 60, 2) := by decide +kernel
theorem dX7_settingFor_17 : decode cX7_settingFor 17 = .ok (.invokestatic 57, 3) := by decide +kernel
theorem dX7_settingFor_20 : decode cX7_settingFor 20 = .ok (.ifCond .ne 6, 3) := by decide +kernel
theorem dX7_settingFor_23 : decode cX7_settingFor 23 = .ok (.ldc 61, 2) := by decide +kernel
theorem dX7_settingFor_25 : decode cX7_settingFor 25 = .ok (.ireturn, 1) := by decide +kernel
theorem dX7_settingFor_26 : decode cX7_settingFor 26 = .ok (.iconst 1, 1) := by decide +kernel
theorem dX7_settingFor_27 : decode cX7_settingFor 27 = .ok (.istore 4, 2) := by decide +kernel
theorem dX7_settingFor_29 : decode cX7_settingFor 29 = .ok (.iload 4, 2) := by decide +kernel
theorem dX7_settingFor_31 : decode cX7_settingFor 31 = .ok (.bipush 60, 2) := by decide +kernel
theorem dX7_settingFor_33 : decode cX7_settingFor 33 = .ok (.if_icmp .gt 50, 3) := by decide +kernel
theorem dX7_settingFor_36 : decode cX7_settingFor 36 = .ok (.aload_n 0, 1) := by decide +kernel
theorem dX7_settingFor_37 : decode cX7_settingFor 37 = .ok (.getfield 49, 3) := by decide +kernel
theorem dX7_settingFor_40 : decode cX7_settingFor 40 = .ok (.invokevirtual 180, 3) := by decide +kernel
theorem dX7_settingFor_43 : decode cX7_settingFor 43 = .ok (.aload_n 0, 1) := by decide +kernel
theorem dX7_settingFor_44 : decode cX7_settingFor 44 = .ok (.getfield 49, 3) := by decide +kernel
theorem dX7_settingFor_47 : decode cX7_settingFor 47 = .ok (.aload_n 3, 1) := by decide +kernel
theorem dX7_settingFor_48 : decode cX7_settingFor 48 = .ok (.getfield 181, 3) := by decide +kernel
theorem dX7_settingFor_51 : decode cX7_settingFor 51 = .ok (.invokevirtual 184, 3) := by decide +kernel
theorem dX7_settingFor_54 : decode cX7_settingFor 54 = .ok (.aload_n 0, 1) := by decide +kernel
theorem dX7_settingFor_55 : decode cX7_settingFor 55 = .ok (.getfield 49, 3) := by decide +kernel
theorem dX7_settingFor_58 : decode cX7_settingFor 58 = .ok (.iload 4, 2) := by decide +kernel
theorem dX7_settingFor_60 : decode cX7_settingFor 60 = .ok (.invokevirtual 188, 3) := by decide +kernel
theorem dX7_settingFor_63 : decode cX7_settingFor 63 = .ok (.aload_n 0, 1) := by decide +kernel
theorem dX7_settingFor_64 : decode cX7_settingFor 64 = .ok (.getfield 49, 3) := by decide +kernel
theorem dX7_settingFor_67 : decode cX7_settingFor 67 = .ok (.invokevirtual 90, 3) := by decide +kernel
theorem dX7_settingFor_70 : decode cX7_settingFor 70 = .ok (.iload_n 2, 1) := by decide +kernel
theorem dX7_settingFor_71 : decode cX7_settingFor 71 = .ok (.if_icmp .lt 6, 3) := by decide +kernel
theorem dX7_settingFor_74 : decode cX7_settingFor 74 = .ok (.iload 4, 2) := by decide +kernel
theorem dX7_settingFor_76 : decode cX7_settingFor 76 = .ok (.ireturn, 1) := by decide +kernel
theorem dX7_settingFor_77 : decode cX7_settingFor 77 = .ok (.iinc 4 1, 3) := by decide +kernel
theorem dX7_settingFor_80 : decode cX7_settingFor 80 = .ok (.goto (-51), 3) := by decide +kernel
theorem dX7_settingFor_83 : decode cX7_settingFor 83 = .ok (.ldc 107, 2) := by decide +kernel
theorem dX7_settingFor_85 : decode cX7_settingFor 85 = .ok (.ireturn, 1) := by decide +kernel
theorem dX7_count_0 : decode cX7_count 0 = .ok (.iload_n 1, 1) := by decide +kernel
theorem dX7_count_1 : decode cX7_count 1 = .ok (.lookupswitch 115 #[(0, 59), (1, 67), (2, 75), (3, 83), (20, 91), (21, 103)], 59) := by decide +kernel
theorem dX7_count_60 : decode cX7_count 60 = .ok (.aload_n 0, 1) := by decide +kernel
theorem dX7_count_61 : decode cX7_count 61 = .ok (.getfield 12, 3) := by decide +kernel
theorem dX7_count_64 : decode cX7_count 64 = .ok (.invokevirtual 189, 3) := by decide +kernel
theorem dX7_count_67 : decode cX7_count 67 = .ok (.ireturn, 1) := by decide +kernel
theorem dX7_count_68 : decode cX7_count 68 = .ok (.aload_n 0, 1) := by decide +kernel
theorem dX7_count_69 : decode cX7_count 69 = .ok (.getfield 12, 3) := by decide +kernel
theorem dX7_count_72 : decode cX7_count 72 = .ok (.invokevirtual 190, 3) := by decide +kernel
theorem dX7_count_75 : decode cX7_count 75 = .ok (.ireturn, 1) := by decide +kernel
theorem dX7_count_76 : decode cX7_count 76 = .ok (.aload_n 0, 1) := by decide +kernel
theorem dX7_count_77 : decode cX7_count 77 = .ok (.getfield 19, 3) := by decide +kernel
theorem dX7_count_80 : decode cX7_count 80 = .ok (.invokevirtual 193, 3) := by decide +kernel
theorem dX7_count_83 : decode cX7_count 83 = .ok (.ireturn, 1) := by decide +kernel
theorem dX7_count_84 : decode cX7_count 84 = .ok (.aload_n 0, 1) := by decide +kernel
theorem dX7_count_85 : decode cX7_count 85 = .ok (.getfield 28, 3) := by decide +kernel
theorem dX7_count_88 : decode cX7_count 88 = .ok (.invokevirtual 137, 3) := by decide +kernel
theorem dX7_count_91 : decode cX7_count 91 = .ok (.ireturn, 1) := by decide +kernel
theorem dX7_count_92 : decode cX7_count 92 = .ok (.aload_n 0, 1) := by decide +kernel
theorem dX7_count_93 : decode cX7_count 93 = .ok (.getfield 12, 3) := by decide +kernel
theorem dX7_count_96 : decode cX7_count 96 = .ok (.getfield 73, 3) := by decide +kernel
theorem dX7_count_99 : decode cX7_count 99 = .ok (.iconst 0, 1) := by decide +kernel
theorem dX7_count_100 : decode cX7_count 100 = .ok (.invokevirtual 80, 3) := by decide +kernel
theorem dX7_count_103 : decode cX7_count 103 = .ok (.ireturn, 1) := by decide +kernel
theorem dX7_count_104 : decode cX7_count 104 = .ok (.aload_n 0, 1) := by decide +kernel
theorem dX7_count_105 : decode cX7_count 105 = .ok (.getfield 12, 3) := by decide +kernel
theorem dX7_count_108 : decode cX7_count 108 = .ok (.getfield 73, 3) := by decide +kernel
theorem dX7_count_111 : decode cX7_count 111 = .ok (.iconst 1, 1) := by decide +kernel
theorem dX7_count_112 : decode cX7_count 112 = .ok (.invokevirtual 80, 3) := by decide +kernel
theorem dX7_count_115 : decode cX7_count 115 = .ok (.ireturn, 1) := by decide +kernel
theorem dX7_count_116 : decode cX7_count 116 = .ok (.ldc 61, 2) := by decide +kernel
theorem dX7_count_118 : decode cX7_count 118 = .ok (.ireturn, 1) := by decide +kernel
theorem dX7_undo_0 : decode cX7_undo 0 = .ok (.aload_n 0, 1) := by decide +kernel
theorem dX7_undo_1 : decode cX7_undo 1 = .ok (.getfield 19, 3) := by decide +kernel
theorem dX7_undo_4 : decode cX7_undo 4 = .ok (.invokevirtual 193, 3) := by decide +kernel
theorem dX7_undo_7 : decode cX7_undo 7 = .ok (.ifCond .ne 6, 3) := by decide +kernel
theorem dX7_undo_10 : decode cX7_undo 10 = .ok (.ldc 158, 2) := by decide +kernel
theorem dX7_undo_12 : decode cX7_undo 12 = .ok (.ireturn, 1) := by decide +kernel
theorem dX7_undo_13 : decode cX7_undo 13 = .ok (.aload_n 0, 1) := by decide +kernel
theorem dX7_undo_14 : decode cX7_undo 14 = .ok (.getfield 19, 3) := by decide +kernel
theorem dX7_undo_17 : decode cX7_undo 17 = .ok (.aload_n 0, 1) := by decide +kernel
theorem dX7_undo_18 : decode cX7_undo 18 = .ok (.getfield 12, 3) := by decide +kernel
theorem dX7_undo_21 : decode cX7_undo 21 = .ok (.invokevirtual 194, 3) := by decide +kernel
theorem dX7_undo_24 : decode cX7_undo 24 = .ok (.aload_n 0, 1) := by decide +kernel
theorem dX7_undo_25 : decode cX7_undo 25 = .ok (.getfield 19, 3) := by decide +kernel
theorem dX7_undo_28 : decode cX7_undo 28 = .ok (.invokevirtual 193, 3) := by decide +kernel
theorem dX7_undo_31 : decode cX7_undo 31 = .ok (.ireturn, 1) := by decide +kernel
theorem dX7_type_0 : decode cX7_type 0 = .ok (.iload_n 1, 1) := by decide +kernel
theorem dX7_type_1 : decode cX7_type 1 = .ok (.bipush 32, 2) := by decide +kernel
theorem dX7_type_3 : decode cX7_type 3 = .ok (.bipush 126, 2) := by decide +kernel
theorem dX7_type_5 : decode cX7_type 5 = .ok (.invokestatic 57, 3) := by decide +kernel
theorem dX7_type_8 : decode cX7_type 8 = .ok (.ifCond .ne 6, 3) := by decide +kernel
theorem dX7_type_11 : decode cX7_type 11 = .ok (.ldc 61, 2) := by decide +kernel
theorem dX7_type_13 : decode cX7_type 13 = .ok (.ireturn, 1) := by decide +kernel
theorem dX7_type_14 : decode cX7_type 14 = .ok (.aload_n 0, 1) := by decide +kernel
theorem dX7_type_15 : decode cX7_type 15 = .ok (.getfield 28, 3) := by decide +kernel
theorem dX7_type_18 : decode cX7_type 18 = .ok (.invokevirtual 137, 3) := by decide +kernel
theorem dX7_type_21 : decode cX7_type 21 = .ok (.bipush 60, 2) := by decide +kernel
theorem dX7_type_23 : decode cX7_type 23 = .ok (.if_icmp .lt 6, 3) := by decide +kernel
theorem dX7_type_26 : decode cX7_type 26 = .ok (.ldc 68, 2) := by decide +kernel
theorem dX7_type_28 : decode cX7_type 28 = .ok (.ireturn, 1) := by decide +kernel
end
section
theorem dX7_type_29 : decode cX7_type 29 = .ok (.aload_n 0, 1) := by decide +kernel
theorem dX7_type_30 : decode cX7_type 30 = .ok (.getfield 28, 3) := by decide +kernel
theorem dX7_type_33 : decode cX7_type 33 = .ok (.iload_n 1, 1) := by decide +kernel
theorem dX7_type_34 : decode cX7_type 34 = .ok (.invokevirtual 197, 3) := by decide +kernel
theorem dX7_type_37 : decode cX7_type 37 = .ok (.aload_n 0, 1) := by decide +kernel
theorem dX7_type_38 : decode cX7_type 38 = .ok (.getfield 28, 3) := by decide +kernel
theorem dX7_type_41 : decode cX7_type 41 = .ok (.invokevirtual 137, 3) := by decide +kernel
theorem dX7_type_44 : decode cX7_type 44 = .ok (.ireturn, 1) := by decide +kernel
theorem dX7_clearText_0 : decode cX7_clearText 0 = .ok (.aload_n 0, 1) := by decide +kernel
theorem dX7_clearText_1 : decode cX7_clearText 1 = .ok (.getfield 28, 3) := by decide +kernel
theorem dX7_clearText_4 : decode cX7_clearText 4 = .ok (.invokevirtual 137, 3) := by decide +kernel
theorem dX7_clearText_7 : decode cX7_clearText 7 = .ok (.istore_n 1, 1) := by decide +kernel
theorem dX7_clearText_8 : decode cX7_clearText 8 = .ok (.aload_n 0, 1) := by decide +kernel
theorem dX7_clearText_9 : decode cX7_clearText 9 = .ok (.getfield 28, 3) := by decide +kernel
theorem dX7_clearText_12 : decode cX7_clearText 12 = .ok (.invokevirtual 200, 3) := by decide +kernel
theorem dX7_clearText_15 : decode cX7_clearText 15 = .ok (.iload_n 1, 1) := by decide +kernel
theorem dX7_clearText_16 : decode cX7_clearText 16 = .ok (.ireturn, 1) := by decide +kernel
theorem dX7_fault_0 : decode cX7_fault 0 = .ok (.iload_n 1, 1) := by decide +kernel
theorem dX7_fault_1 : decode cX7_fault 1 = .ok (.iconst 0, 1) := by decide +kernel
theorem dX7_fault_2 : decode cX7_fault 2 = .ok (.iconst 2, 1) := by decide +kernel
theorem dX7_fault_3 : decode cX7_fault 3 = .ok (.invokestatic 57, 3) := by decide +kernel
theorem dX7_fault_6 : decode cX7_fault 6 = .ok (.ifCond .ne 6, 3) := by decide +kernel
theorem dX7_fault_9 : decode cX7_fault 9 = .ok (.ldc 61, 2) := by decide +kernel
theorem dX7_fault_11 : decode cX7_fault 11 = .ok (.ireturn, 1) := by decide +kernel
theorem dX7_fault_12 : decode cX7_fault 12 = .ok (.aload_n 0, 1) := by decide +kernel
theorem dX7_fault_13 : decode cX7_fault 13 = .ok (.getfield 42, 3) := by decide +kernel
theorem dX7_fault_16 : decode cX7_fault 16 = .ok (.aload_n 0, 1) := by decide +kernel
theorem dX7_fault_17 : decode cX7_fault 17 = .ok (.getfield 28, 3) := by decide +kernel
theorem dX7_fault_20 : decode cX7_fault 20 = .ok (.aload_n 0, 1) := by decide +kernel
theorem dX7_fault_21 : decode cX7_fault 21 = .ok (.getfield 12, 3) := by decide +kernel
theorem dX7_fault_24 : decode cX7_fault 24 = .ok (.aload_n 0, 1) := by decide +kernel
theorem dX7_fault_25 : decode cX7_fault 25 = .ok (.getfield 35, 3) := by decide +kernel
theorem dX7_fault_28 : decode cX7_fault 28 = .ok (.invokevirtual 201, 3) := by decide +kernel
theorem dX7_fault_31 : decode cX7_fault 31 = .ok (.aload_n 0, 1) := by decide +kernel
theorem dX7_fault_32 : decode cX7_fault 32 = .ok (.getfield 42, 3) := by decide +kernel
theorem dX7_fault_35 : decode cX7_fault 35 = .ok (.getfield 205, 3) := by decide +kernel
theorem dX7_fault_38 : decode cX7_fault 38 = .ok (.ifCond .ne 6, 3) := by decide +kernel
theorem dX7_fault_41 : decode cX7_fault 41 = .ok (.ldc 107, 2) := by decide +kernel
theorem dX7_fault_43 : decode cX7_fault 43 = .ok (.ireturn, 1) := by decide +kernel
theorem dX7_fault_44 : decode cX7_fault 44 = .ok (.iload_n 1, 1) := by decide +kernel
theorem dX7_fault_45 : decode cX7_fault 45 = .ok (.ifCond .ne 11, 3) := by decide +kernel
theorem dX7_fault_48 : decode cX7_fault 48 = .ok (.aload_n 0, 1) := by decide +kernel
theorem dX7_fault_49 : decode cX7_fault 49 = .ok (.getfield 42, 3) := by decide +kernel
theorem dX7_fault_52 : decode cX7_fault 52 = .ok (.getfield 208, 3) := by decide +kernel
theorem dX7_fault_55 : decode cX7_fault 55 = .ok (.ireturn, 1) := by decide +kernel
theorem dX7_fault_56 : decode cX7_fault 56 = .ok (.iload_n 1, 1) := by decide +kernel
theorem dX7_fault_57 : decode cX7_fault 57 = .ok (.iconst 1, 1) := by decide +kernel
theorem dX7_fault_58 : decode cX7_fault 58 = .ok (.if_icmp .ne 11, 3) := by decide +kernel
theorem dX7_fault_61 : decode cX7_fault 61 = .ok (.aload_n 0, 1) := by decide +kernel
theorem dX7_fault_62 : decode cX7_fault 62 = .ok (.getfield 42, 3) := by decide +kernel
theorem dX7_fault_65 : decode cX7_fault 65 = .ok (.getfield 205, 3) := by decide +kernel
theorem dX7_fault_68 : decode cX7_fault 68 = .ok (.ireturn, 1) := by decide +kernel
theorem dX7_fault_69 : decode cX7_fault 69 = .ok (.aload_n 0, 1) := by decide +kernel
theorem dX7_fault_70 : decode cX7_fault 70 = .ok (.getfield 42, 3) := by decide +kernel
theorem dX7_fault_73 : decode cX7_fault 73 = .ok (.getfield 205, 3) := by decide +kernel
theorem dX7_fault_76 : decode cX7_fault 76 = .ok (.iconst 1, 1) := by decide +kernel
theorem dX7_fault_77 : decode cX7_fault 77 = .ok (.if_icmp .ne 13, 3) := by decide +kernel
theorem dX7_fault_80 : decode cX7_fault 80 = .ok (.aload_n 0, 1) := by decide +kernel
theorem dX7_fault_81 : decode cX7_fault 81 = .ok (.getfield 42, 3) := by decide +kernel
theorem dX7_fault_84 : decode cX7_fault 84 = .ok (.getfield 211, 3) := by decide +kernel
theorem dX7_fault_87 : decode cX7_fault 87 = .ok (.goto 5, 3) := by decide +kernel
theorem dX7_fault_90 : decode cX7_fault 90 = .ok (.ldc 107, 2) := by decide +kernel
theorem dX7_fault_92 : decode cX7_fault 92 = .ok (.ireturn, 1) := by decide +kernel
theorem dX7_play_0 : decode cX7_play 0 = .ok (.aload_n 0, 1) := by decide +kernel
theorem dX7_play_1 : decode cX7_play 1 = .ok (.getfield 42, 3) := by decide +kernel
theorem dX7_play_4 : decode cX7_play 4 = .ok (.aload_n 0, 1) := by decide +kernel
theorem dX7_play_5 : decode cX7_play 5 = .ok (.getfield 28, 3) := by decide +kernel
theorem dX7_play_8 : decode cX7_play 8 = .ok (.aload_n 0, 1) := by decide +kernel
theorem dX7_play_9 : decode cX7_play 9 = .ok (.getfield 12, 3) := by decide +kernel
theorem dX7_play_12 : decode cX7_play 12 = .ok (.aload_n 0, 1) := by decide +kernel
theorem dX7_play_13 : decode cX7_play 13 = .ok (.getfield 35, 3) := by decide +kernel
theorem dX7_play_16 : decode cX7_play 16 = .ok (.invokevirtual 201, 3) := by decide +kernel
theorem dX7_play_19 : decode cX7_play 19 = .ok (.aload_n 0, 1) := by decide +kernel
theorem dX7_play_20 : decode cX7_play 20 = .ok (.getfield 42, 3) := by decide +kernel
theorem dX7_play_23 : decode cX7_play 23 = .ok (.getfield 205, 3) := by decide +kernel
theorem dX7_play_26 : decode cX7_play 26 = .ok (.ifCond .eq 6, 3) := by decide +kernel
theorem dX7_play_29 : decode cX7_play 29 = .ok (.ldc 158, 2) := by decide +kernel
theorem dX7_play_31 : decode cX7_play 31 = .ok (.ireturn, 1) := by decide +kernel
theorem dX7_play_32 : decode cX7_play 32 = .ok (.aload_n 0, 1) := by decide +kernel
theorem dX7_play_33 : decode cX7_play 33 = .ok (.getfield 19, 3) := by decide +kernel
theorem dX7_play_36 : decode cX7_play 36 = .ok (.aload_n 0, 1) := by decide +kernel
theorem dX7_play_37 : decode cX7_play 37 = .ok (.getfield 12, 3) := by decide +kernel
theorem dX7_play_40 : decode cX7_play 40 = .ok (.invokevirtual 69, 3) := by decide +kernel
theorem dX7_play_43 : decode cX7_play 43 = .ok (.iconst 0, 1) := by decide +kernel
theorem dX7_play_44 : decode cX7_play 44 = .ok (.istore_n 1, 1) := by decide +kernel
theorem dX7_play_45 : decode cX7_play 45 = .ok (.iconst 0, 1) := by decide +kernel
theorem dX7_play_46 : decode cX7_play 46 = .ok (.istore_n 2, 1) := by decide +kernel
theorem dX7_play_47 : decode cX7_play 47 = .ok (.iload_n 2, 1) := by decide +kernel
theorem dX7_play_48 : decode cX7_play 48 = .ok (.bipush 60, 2) := by decide +kernel
theorem dX7_play_50 : decode cX7_play 50 = .ok (.if_icmp .ge 107, 3) := by decide +kernel
theorem dX7_play_53 : decode cX7_play 53 = .ok (.iload_n 1, 1) := by decide +kernel
theorem dX7_play_54 : decode cX7_play 54 = .ok (.aload_n 0, 1) := by decide +kernel
theorem dX7_play_55 : decode cX7_play 55 = .ok (.getfield 28, 3) := by decide +kernel
theorem dX7_play_58 : decode cX7_play 58 = .ok (.invokevirtual 137, 3) := by decide +kernel
theorem dX7_play_61 : decode cX7_play 61 = .ok (.if_icmp .ge 96, 3) := by decide +kernel
theorem dX7_play_64 : decode cX7_play 64 = .ok (.aload_n 0, 1) := by decide +kernel
theorem dX7_play_65 : decode cX7_play 65 = .ok (.getfield 35, 3) := by decide +kernel
theorem dX7_play_68 : decode cX7_play 68 = .ok (.aload_n 0, 1) := by decide +kernel
theorem dX7_play_69 : decode cX7_play 69 = .ok (.getfield 28, 3) := by decide +kernel
theorem dX7_play_72 : decode cX7_play 72 = .ok (.iload_n 1, 1) := by decide +kernel
theorem dX7_play_73 : decode cX7_play 73 = .ok (.invokevirtual 214, 3) := by decide +kernel
theorem dX7_play_76 : decode cX7_play 76 = .ok (.pop, 1) := by decide +kernel
theorem dX7_play_77 : decode cX7_play 77 = .ok (.aload_n 0, 1) := by decide +kernel
theorem dX7_play_78 : decode cX7_play 78 = .ok (.getfield 12, 3) := by decide +kernel
theorem dX7_play_81 : decode cX7_play 81 = .ok (.aload_n 0, 1) := by decide +kernel
theorem dX7_play_82 : decode cX7_play 82 = .ok (.getfield 35, 3) := by decide +kernel
theorem dX7_play_85 : decode cX7_play 85 = .ok (.getfield 218, 3) := by decide +kernel
theorem dX7_play_88 : decode cX7_play 88 = .ok (.invokevirtual 53, 3) := by decide +kernel
theorem dX7_play_91 : decode cX7_play 91 = .ok (.astore_n 3, 1) := by decide +kernel
theorem dX7_play_92 : decode cX7_play 92 = .ok (.iconst 0, 1) := by decide +kernel
theorem dX7_play_93 : decode cX7_play 93 = .ok (.istore 4, 2) := by decide +kernel
theorem dX7_play_95 : decode cX7_play 95 = .ok (.aload_n 3, 1) := by decide +kernel
theorem dX7_play_96 : decode cX7_play 96 = .ok (.ifnull 47, 3) := by decide +kernel
theorem dX7_play_99 : decode cX7_play 99 = .ok (.iload 4, 2) := by decide +kernel
theorem dX7_play_101 : decode cX7_play 101 = .ok (.aload_n 0, 1) := by decide +kernel
theorem dX7_play_102 : decode cX7_play 102 = .ok (.getfield 35, 3) := by decide +kernel
theorem dX7_play_105 : decode cX7_play 105 = .ok (.getfield 221, 3) := by decide +kernel
theorem dX7_play_108 : decode cX7_play 108 = .ok (.invokevirtual 137, 3) := by decide +kernel
theorem dX7_play_111 : decode cX7_play 111 = .ok (.if_icmp .ge 32, 3) := by decide +kernel
theorem dX7_play_114 : decode cX7_play 114 = .ok (.aload_n 3, 1) := by decide +kernel
theorem dX7_play_115 : decode cX7_play 115 = .ok (.aload_n 0, 1) := by decide +kernel
theorem dX7_play_116 : decode cX7_play 116 = .ok (.getfield 35, 3) := by decide +kernel
theorem dX7_play_119 : decode cX7_play 119 = .ok (.getfield 221, 3) := by decide +kernel
theorem dX7_play_122 : decode cX7_play 122 = .ok (.iload 4, 2) := by decide +kernel
theorem dX7_play_124 : decode cX7_play 124 = .ok (.invokevirtual 80, 3) := by decide +kernel
theorem dX7_play_127 : decode cX7_play 127 = .ok (.aload_n 0, 1) := by decide +kernel
theorem dX7_play_128 : decode cX7_play 128 = .ok (.getfield 12, 3) := by decide +kernel
theorem dX7_play_131 : decode cX7_play 131 = .ok (.getfield 73, 3) := by decide +kernel
theorem dX7_play_134 : decode cX7_play 134 = .ok (.invokevirtual 76, 3) := by decide +kernel
theorem dX7_play_137 : decode cX7_play 137 = .ok (.iinc 4 1, 3) := by decide +kernel
theorem dX7_play_140 : decode cX7_play 140 = .ok (.goto (-45), 3) := by decide +kernel
theorem dX7_play_143 : decode cX7_play 143 = .ok (.aload_n 0, 1) := by decide +kernel
theorem dX7_play_144 : decode cX7_play 144 = .ok (.getfield 35, 3) := by decide +kernel
theorem dX7_play_147 : decode cX7_play 147 = .ok (.getfield 222, 3) := by decide +kernel
theorem dX7_play_150 : decode cX7_play 150 = .ok (.istore_n 1, 1) := by decide +kernel
theorem dX7_play_151 : decode cX7_play 151 = .ok (.iinc 2 1, 3) := by decide +kernel
theorem dX7_play_154 : decode cX7_play 154 = .ok (.goto (-107), 3) := by decide +kernel
theorem dX7_play_157 : decode cX7_play 157 = .ok (.aload_n 0, 1) := by decide +kernel
theorem dX7_play_158 : decode cX7_play 158 = .ok (.getfield 12, 3) := by decide +kernel
theorem dX7_play_161 : decode cX7_play 161 = .ok (.invokevirtual 189, 3) := by decide +kernel
theorem dX7_play_164 : decode cX7_play 164 = .ok (.ireturn, 1) := by decide +kernel
theorem dX7_packOnTrial_0 : decode cX7_packOnTrial 0 = .ok (.aload_n 0, 1) := by decide +kernel
theorem dX7_packOnTrial_1 : decode cX7_packOnTrial 1 = .ok (.getfield 49, 3) := by decide +kernel
theorem dX7_packOnTrial_4 : decode cX7_packOnTrial 4 = .ok (.aload_n 1, 1) := by decide +kernel
theorem dX7_packOnTrial_5 : decode cX7_packOnTrial 5 = .ok (.getfield 87, 3) := by decide +kernel
theorem dX7_packOnTrial_8 : decode cX7_packOnTrial 8 = .ok (.invokevirtual 225, 3) := by decide +kernel
theorem dX7_packOnTrial_11 : decode cX7_packOnTrial 11 = .ok (.aload_n 0, 1) := by decide +kernel
theorem dX7_packOnTrial_12 : decode cX7_packOnTrial 12 = .ok (.getfield 49, 3) := by decide +kernel
theorem dX7_packOnTrial_15 : decode cX7_packOnTrial 15 = .ok (.aload_n 1, 1) := by decide +kernel
theorem dX7_packOnTrial_16 : decode cX7_packOnTrial 16 = .ok (.getfield 134, 3) := by decide +kernel
theorem dX7_packOnTrial_19 : decode cX7_packOnTrial 19 = .ok (.invokevirtual 184, 3) := by decide +kernel
theorem dX7_packOnTrial_22 : decode cX7_packOnTrial 22 = .ok (.aload_n 0, 1) := by decide +kernel
theorem dX7_packOnTrial_23 : decode cX7_packOnTrial 23 = .ok (.getfield 49, 3) := by decide +kernel
theorem dX7_packOnTrial_26 : decode cX7_packOnTrial 26 = .ok (.aload_n 0, 1) := by decide +kernel
theorem dX7_packOnTrial_27 : decode cX7_packOnTrial 27 = .ok (.getfield 12, 3) := by decide +kernel
theorem dX7_packOnTrial_30 : decode cX7_packOnTrial 30 = .ok (.getfield 73, 3) := by decide +kernel
theorem dX7_packOnTrial_33 : decode cX7_packOnTrial 33 = .ok (.iconst 0, 1) := by decide +kernel
theorem dX7_packOnTrial_34 : decode cX7_packOnTrial 34 = .ok (.invokevirtual 80, 3) := by decide +kernel
theorem dX7_packOnTrial_37 : decode cX7_packOnTrial 37 = .ok (.invokevirtual 188, 3) := by decide +kernel
theorem dX7_packOnTrial_40 : decode cX7_packOnTrial 40 = .ok (.return_, 1) := by decide +kernel
theorem dX7_isWithin_0 : decode cX7_isWithin 0 = .ok (.iload_n 0, 1) := by decide +kernel
theorem dX7_isWithin_1 : decode cX7_isWithin 1 = .ok (.iload_n 1, 1) := by decide +kernel
theorem dX7_isWithin_2 : decode cX7_isWithin 2 = .ok (.if_icmp .lt 12, 3) := by decide +kernel
theorem dX7_isWithin_5 : decode cX7_isWithin 5 = .ok (.iload_n 0, 1) := by decide +kernel
theorem dX7_isWithin_6 : decode cX7_isWithin 6 = .ok (.iload_n 2, 1) := by decide +kernel
theorem dX7_isWithin_7 : decode cX7_isWithin 7 = .ok (.if_icmp .gt 7, 3) := by decide +kernel
theorem dX7_isWithin_10 : decode cX7_isWithin 10 = .ok (.iconst 1, 1) := by decide +kernel
theorem dX7_isWithin_11 : decode cX7_isWithin 11 = .ok (.goto 4, 3) := by decide +kernel
theorem dX7_isWithin_14 : decode cX7_isWithin 14 = .ok (.iconst 0, 1) := by decide +kernel
theorem dX7_isWithin_15 : decode cX7_isWithin 15 = .ok (.ireturn, 1) := by decide +kernel
theorem dX7_highestSetting_0 : decode cX7_highestSetting 0 = .ok (.iload_n 0, 1) := by decide +kernel
theorem dX7_highestSetting_1 : decode cX7_highestSetting 1 = .ok (.ifCond .ne 8, 3) := by decide +kernel
theorem dX7_highestSetting_4 : decode cX7_highestSetting 4 = .ok (.bipush 60, 2) := by decide +kernel
theorem dX7_highestSetting_6 : decode cX7_highestSetting 6 = .ok (.goto 5, 3) := by decide +kernel
theorem dX7_highestSetting_9 : decode cX7_highestSetting 9 = .ok (.bipush 20, 2) := by decide +kernel
theorem dX7_highestSetting_11 : decode cX7_highestSetting 11 = .ok (.ireturn, 1) := by decide +kernel
theorem dX7_trueIndex_0 : decode cX7_trueIndex 0 = .ok (.iload_n 0, 1) := by decide +kernel
theorem dX7_trueIndex_1 : decode cX7_trueIndex 1 = .ok (.iload_n 1, 1) := by decide +kernel
theorem dX7_trueIndex_2 : decode cX7_trueIndex 2 = .ok (.iconst 1, 1) := by decide +kernel
theorem dX7_trueIndex_3 : decode cX7_trueIndex 3 = .ok (.isub, 1) := by decide +kernel
theorem dX7_trueIndex_4 : decode cX7_trueIndex 4 = .ok (.imul, 1) := by decide +kernel
theorem dX7_trueIndex_5 : decode cX7_trueIndex 5 = .ok (.sipush 1000, 3) := by decide +kernel
theorem dX7_trueIndex_8 : decode cX7_trueIndex 8 = .ok (.idiv, 1) := by decide +kernel
theorem dX7_trueIndex_9 : decode cX7_trueIndex 9 = .ok (.ireturn, 1) := by decide +kernel
theorem dX7_floatBits_0 : decode cX7_floatBits 0 = .ok (.fload_n 0, 1) := by decide +kernel
theorem dX7_floatBits_1 : decode cX7_floatBits 1 = .ok (.fconst 0, 1) := by decide +kernel
theorem dX7_floatBits_2 : decode cX7_floatBits 2 = .ok (.fcmp .l, 1) := by decide +kernel
theorem dX7_floatBits_3 : decode cX7_floatBits 3 = .ok (.ifCond .gt 5, 3) := by decide +kernel
theorem dX7_floatBits_6 : decode cX7_floatBits 6 = .ok (.iconst 0, 1) := by decide +kernel
theorem dX7_floatBits_7 : decode cX7_floatBits 7 = .ok (.ireturn, 1) := by decide +kernel
theorem dX7_floatBits_8 : decode cX7_floatBits 8 = .ok (.fload_n 0, 1) := by decide +kernel
theorem dX7_floatBits_9 : decode cX7_floatBits 9 = .ok (.fstore_n 1, 1) := by decide +kernel
theorem dX7_floatBits_10 : decode cX7_floatBits 10 = .ok (.bipush 127, 2) := by decide +kernel
theorem dX7_floatBits_12 : decode cX7_floatBits 12 = .ok (.istore_n 2, 1) := by decide +kernel
theorem dX7_floatBits_13 : decode cX7_floatBits 13 = .ok (.fload_n 1, 1) := by decide +kernel
theorem dX7_floatBits_14 : decode cX7_floatBits 14 = .ok (.fconst 2, 1) := by decide +kernel
theorem dX7_floatBits_15 : decode cX7_floatBits 15 = .ok (.fcmp .l, 1) := by decide +kernel
theorem dX7_floatBits_16 : decode cX7_floatBits 16 = .ok (.ifCond .lt 21, 3) := by decide +kernel
theorem dX7_floatBits_19 : decode cX7_floatBits 19 = .ok (.iload_n 2, 1) := by decide +kernel
theorem dX7_floatBits_20 : decode cX7_floatBits 20 = .ok (.sipush 254, 3) := by decide +kernel
theorem dX7_floatBits_23 : decode cX7_floatBits 23 = .ok (.if_icmp .ge 14, 3) := by decide +kernel
theorem dX7_floatBits_26 : decode cX7_floatBits 26 = .ok (.fload_n 1, 1) := by decide +kernel
theorem dX7_floatBits_27 : decode cX7_floatBits 27 = .ok (.ldc 229, 2) := by decide +kernel
theorem dX7_floatBits_29 : decode cX7_floatBits 29 = .ok (.fmul, 1) := by decide +kernel
theorem dX7_floatBits_30 : decode cX7_floatBits 30 = .ok (.fstore_n 1, 1) := by decide +kernel
theorem dX7_floatBits_31 : decode cX7_floatBits 31 = .ok (.iinc 2 1, 3) := by decide +kernel
theorem dX7_floatBits_34 : decode cX7_floatBits 34 = .ok (.goto (-21), 3) := by decide +kernel
theorem dX7_floatBits_37 : decode cX7_floatBits 37 = .ok (.fload_n 1, 1) := by decide +kernel
theorem dX7_floatBits_38 : decode cX7_floatBits 38 = .ok (.fconst 1, 1) := by decide +kernel
theorem dX7_floatBits_39 : decode cX7_floatBits 39 = .ok (.fcmp .g, 1) := by decide +kernel
theorem dX7_floatBits_40 : decode cX7_floatBits 40 = .ok (.ifCond .ge 18, 3) := by decide +kernel
theorem dX7_floatBits_43 : decode cX7_floatBits 43 = .ok (.iload_n 2, 1) := by decide +kernel
theorem dX7_floatBits_44 : decode cX7_floatBits 44 = .ok (.iconst 1, 1) := by decide +kernel
theorem dX7_floatBits_45 : decode cX7_floatBits 45 = .ok (.if_icmp .le 13, 3) := by decide +kernel
theorem dX7_floatBits_48 : decode cX7_floatBits 48 = .ok (.fload_n 1, 1) := by decide +kernel
theorem dX7_floatBits_49 : decode cX7_floatBits 49 = .ok (.fconst 2, 1) := by decide +kernel
theorem dX7_floatBits_50 : decode cX7_floatBits 50 = .ok (.fmul, 1) := by decide +kernel
theorem dX7_floatBits_51 : decode cX7_floatBits 51 = .ok (.fstore_n 1, 1) := by decide +kernel
theorem dX7_floatBits_52 : decode cX7_floatBits 52 = .ok (.iinc 2 (-1), 3) := by decide +kernel
theorem dX7_floatBits_55 : decode cX7_floatBits 55 = .ok (.goto (-18), 3) := by decide +kernel
theorem dX7_floatBits_58 : decode cX7_floatBits 58 = .ok (.fload_n 1, 1) := by decide +kernel
theorem dX7_floatBits_59 : decode cX7_floatBits 59 = .ok (.ldc 230, 2) := by decide +kernel
theorem dX7_floatBits_61 : decode cX7_floatBits 61 = .ok (.fmul, 1) := by decide +kernel
theorem dX7_floatBits_62 : decode cX7_floatBits 62 = .ok (.f2i, 1) := by decide +kernel
theorem dX7_floatBits_63 : decode cX7_floatBits 63 = .ok (.ldc 231, 2) := by decide +kernel
theorem dX7_floatBits_65 : decode cX7_floatBits 65 = .ok (.isub, 1) := by decide +kernel
theorem dX7_floatBits_66 : decode cX7_floatBits 66 = .ok (.istore_n 3, 1) := by decide +kernel
theorem dX7_floatBits_67 : decode cX7_floatBits 67 = .ok (.iload_n 2, 1) := by decide +kernel
theorem dX7_floatBits_68 : decode cX7_floatBits 68 = .ok (.bipush 23, 2) := by decide +kernel
theorem dX7_floatBits_70 : decode cX7_floatBits 70 = .ok (.ishl, 1) := by decide +kernel
theorem dX7_floatBits_71 : decode cX7_floatBits 71 = .ok (.iload_n 3, 1) := by decide +kernel
theorem dX7_floatBits_72 : decode cX7_floatBits 72 = .ok (.ior, 1) := by decide +kernel
theorem dX7_floatBits_73 : decode cX7_floatBits 73 = .ok (.ireturn, 1) := by decide +kernel
theorem dX8_init_0 : decode cX8_init 0 = .ok (.aload_n 0, 1) := by decide +kernel
theorem dX8_init_1 : decode cX8_init 1 = .ok (.invokespecial 1, 3) := by decide +kernel
theorem dX8_init_4 : decode cX8_init 4 = .ok (.aload_n 0, 1) := by decide +kernel
theorem dX8_init_5 : decode cX8_init 5 = .ok (.sipush 3074, 3) := by decide +kernel
theorem dX8_init_8 : decode cX8_init 8 = .ok (.newarray .int, 2) := by decide +kernel
theorem dX8_init_10 : decode cX8_init 10 = .ok (.putfield 7, 3) := by decide +kernel
theorem dX8_init_13 : decode cX8_init 13 = .ok (.aload_n 0, 1) := by decide +kernel
theorem dX8_init_14 : decode cX8_init 14 = .ok (.sipush 12296, 3) := by decide +kernel
theorem dX8_init_17 : decode cX8_init 17 = .ok (.newarray .int, 2) := by decide +kernel
theorem dX8_init_19 : decode cX8_init 19 = .ok (.putfield 13, 3) := by decide +kernel
theorem dX8_init_22 : decode cX8_init 22 = .ok (.aload_n 0, 1) := by decide +kernel
theorem dX8_init_23 : decode cX8_init 23 = .ok (.bipush 60, 2) := by decide +kernel
theorem dX8_init_25 : decode cX8_init 25 = .ok (.newarray .int, 2) := by decide +kernel
theorem dX8_init_27 : decode cX8_init 27 = .ok (.putfield 16, 3) := by decide +kernel
theorem dX8_init_30 : decode cX8_init 30 = .ok (.aload_n 0, 1) := by decide +kernel
theorem dX8_init_31 : decode cX8_init 31 = .ok (.sipush 400, 3) := by decide +kernel
theorem dX8_init_34 : decode cX8_init 34 = .ok (.newarray .int, 2) := by decide +kernel
theorem dX8_init_36 : decode cX8_init 36 = .ok (.putfield 19, 3) := by decide +kernel
theorem dX8_init_39 : decode cX8_init 39 = .ok (.aload_n 0, 1) := by decide +kernel
theorem dX8_init_40 : decode cX8_init 40 = .ok (.sipush 400, 3) := by decide +kernel
theorem dX8_init_43 : decode cX8_init 43 = .ok (.newarray .int, 2) := by decide +kernel
theorem dX8_init_45 : decode cX8_init 45 = .ok (.putfield 22, 3) := by decide +kernel
theorem dX8_init_48 : decode cX8_init 48 = .ok (.aload_n 0, 1) := by decide +kernel
theorem dX8_init_49 : decode cX8_init 49 = .ok (.sipush 400, 3) := by decide +kernel
theorem dX8_init_52 : decode cX8_init 52 = .ok (.newarray .int, 2) := by decide +kernel
theorem dX8_init_54 : decode cX8_init 54 = .ok (.putfield 25, 3) := by decide +kernel
theorem dX8_init_57 : decode cX8_init 57 = .ok (.aload_n 0, 1) := by decide +kernel
theorem dX8_init_58 : decode cX8_init 58 = .ok (.sipush 400, 3) := by decide +kernel
theorem dX8_init_61 : decode cX8_init 61 = .ok (.newarray .int, 2) := by decide +kernel
theorem dX8_init_63 : decode cX8_init 63 = .ok (.putfield 28, 3) := by decide +kernel
theorem dX8_init_66 : decode cX8_init 66 = .ok (.aload_n 0, 1) := by decide +kernel
theorem dX8_init_67 : decode cX8_init 67 = .ok (.sipush 200, 3) := by decide +kernel
theorem dX8_init_70 : decode cX8_init 70 = .ok (.newarray .int, 2) := by decide +kernel
theorem dX8_init_72 : decode cX8_init 72 = .ok (.putfield 31, 3) := by decide +kernel
theorem dX8_init_75 : decode cX8_init 75 = .ok (.aload_n 0, 1) := by decide +kernel
theorem dX8_init_76 : decode cX8_init 76 = .ok (.iconst 3, 1) := by decide +kernel
theorem dX8_init_77 : decode cX8_init 77 = .ok (.newarray .int, 2) := by decide +kernel
theorem dX8_init_79 : decode cX8_init 79 = .ok (.putfield 34, 3) := by decide +kernel
theorem dX8_init_82 : decode cX8_init 82 = .ok (.aload_n 0, 1) := by decide +kernel
theorem dX8_init_83 : decode cX8_init 83 = .ok (.getfield 7, 3) := by decide +kernel
theorem dX8_init_86 : decode cX8_init 86 = .ok (.iconst 0, 1) := by decide +kernel
theorem dX8_init_87 : decode cX8_init 87 = .ok (.bipush 10, 2) := by decide +kernel
theorem dX8_init_89 : decode cX8_init 89 = .ok (.iastore, 1) := by decide +kernel
theorem dX8_init_90 : decode cX8_init 90 = .ok (.aload_n 0, 1) := by decide +kernel
theorem dX8_init_91 : decode cX8_init 91 = .ok (.getfield 7, 3) := by decide +kernel
theorem dX8_init_94 : decode cX8_init 94 = .ok (.iconst 1, 1) := by decide +kernel
theorem dX8_init_95 : decode cX8_init 95 = .ok (.iconst 5, 1) := by decide +kernel
theorem dX8_init_96 : decode cX8_init 96 = .ok (.iastore, 1) := by decide +kernel
theorem dX8_init_97 : decode cX8_init 97 = .ok (.return_, 1) := by decide +kernel
theorem dX8_moves_0 : decode cX8_moves 0 = .ok (.iconst 0, 1) := by decide +kernel
theorem dX8_moves_1 : decode cX8_moves 1 = .ok (.istore 4, 2) := by decide +kernel
theorem dX8_moves_3 : decode cX8_moves 3 = .ok (.iload 4, 2) := by decide +kernel
theorem dX8_moves_5 : decode cX8_moves 5 = .ok (.sipush 3074, 3) := by decide +kernel
theorem dX8_moves_8 : decode cX8_moves 8 = .ok (.if_icmp .ge 21, 3) := by decide +kernel
theorem dX8_moves_11 : decode cX8_moves 11 = .ok (.aload_n 2, 1) := by decide +kernel
theorem dX8_moves_12 : decode cX8_moves 12 = .ok (.iload_n 3, 1) := by decide +kernel
theorem dX8_moves_13 : decode cX8_moves 13 = .ok (.iload 4, 2) := by decide +kernel
theorem dX8_moves_15 : decode cX8_moves 15 = .ok (.iadd, 1) := by decide +kernel
theorem dX8_moves_16 : decode cX8_moves 16 = .ok (.aload_n 0, 1) := by decide +kernel
theorem dX8_moves_17 : decode cX8_moves 17 = .ok (.iload_n 1, 1) := by decide +kernel
theorem dX8_moves_18 : decode cX8_moves 18 = .ok (.iload 4, 2) := by decide +kernel
theorem dX8_moves_20 : decode cX8_moves 20 = .ok (.iadd, 1) := by decide +kernel
theorem dX8_moves_21 : decode cX8_moves 21 = .ok (.iaload, 1) := by decide +kernel
theorem dX8_moves_22 : decode cX8_moves 22 = .ok (.iastore, 1) := by decide +kernel
theorem dX8_moves_23 : decode cX8_moves 23 = .ok (.iinc 4 1, 3) := by decide +kernel
theorem dX8_moves_26 : decode cX8_moves 26 = .ok (.goto (-23), 3) := by decide +kernel
theorem dX8_moves_29 : decode cX8_moves 29 = .ok (.return_, 1) := by decide +kernel
theorem dX8_within_0 : decode cX8_within 0 = .ok (.iload_n 0, 1) := by decide +kernel
theorem dX8_within_1 : decode cX8_within 1 = .ok (.iload_n 1, 1) := by decide +kernel
theorem dX8_within_2 : decode cX8_within 2 = .ok (.if_icmp .lt 12, 3) := by decide +kernel
theorem dX8_within_5 : decode cX8_within 5 = .ok (.iload_n 0, 1) := by decide +kernel
theorem dX8_within_6 : decode cX8_within 6 = .ok (.iload_n 2, 1) := by decide +kernel
theorem dX8_within_7 : decode cX8_within 7 = .ok (.if_icmp .gt 7, 3) := by decide +kernel
theorem dX8_within_10 : decode cX8_within 10 = .ok (.iconst 1, 1) := by decide +kernel
theorem dX8_within_11 : decode cX8_within 11 = .ok (.goto 4, 3) := by decide +kernel
theorem dX8_within_14 : decode cX8_within 14 = .ok (.iconst 0, 1) := by decide +kernel
theorem dX8_within_15 : decode cX8_within 15 = .ok (.ireturn, 1) := by decide +kernel
theorem dX8_record_0 : decode cX8_record 0 = .ok (.aload_n 0, 1) := by decide +kernel
theorem dX8_record_1 : decode cX8_record 1 = .ok (.getfield 37, 3) := by decide +kernel
theorem dX8_record_4 : decode cX8_record 4 = .ok (.iconst 4, 1) := by decide +kernel
theorem dX8_record_5 : decode cX8_record 5 = .ok (.if_icmp .ne 44, 3) := by decide +kernel
theorem dX8_record_8 : decode cX8_record 8 = .ok (.iconst 0, 1) := by decide +kernel
theorem dX8_record_9 : decode cX8_record 9 = .ok (.istore_n 1, 1) := by decide +kernel
theorem dX8_record_10 : decode cX8_record 10 = .ok (.iload_n 1, 1) := by decide +kernel
theorem dX8_record_11 : decode cX8_record 11 = .ok (.sipush 9222, 3) := by decide +kernel
theorem dX8_record_14 : decode cX8_record 14 = .ok (.if_icmp .ge 25, 3) := by decide +kernel
theorem dX8_record_17 : decode cX8_record 17 = .ok (.aload_n 0, 1) := by decide +kernel
theorem dX8_record_18 : decode cX8_record 18 = .ok (.getfield 13, 3) := by decide +kernel
theorem dX8_record_21 : decode cX8_record 21 = .ok (.iload_n 1, 1) := by decide +kernel
theorem dX8_record_22 : decode cX8_record 22 = .ok (.aload_n 0, 1) := by decide +kernel
theorem dX8_record_23 : decode cX8_record 23 = .ok (.getfield 13, 3) := by decide +kernel
theorem dX8_record_26 : decode cX8_record 26 = .ok (.iload_n 1, 1) := by decide +kernel
theorem dX8_record_27 : decode cX8_record 27 = .ok (.sipush 3074, 3) := by decide +kernel
theorem dX8_record_30 : decode cX8_record 30 = .ok (.iadd, 1) := by decide +kernel
theorem dX8_record_31 : decode cX8_record 31 = .ok (.iaload, 1) := by decide +kernel
theorem dX8_record_32 : decode cX8_record 32 = .ok (.iastore, 1) := by decide +kernel
theorem dX8_record_33 : decode cX8_record 33 = .ok (.iinc 1 1, 3) := by decide +kernel
theorem dX8_record_36 : decode cX8_record 36 = .ok (.goto (-26), 3) := by decide +kernel
theorem dX8_record_39 : decode cX8_record 39 = .ok (.aload_n 0, 1) := by decide +kernel
theorem dX8_record_40 : decode cX8_record 40 = .ok (.dup, 1) := by decide +kernel
theorem dX8_record_41 : decode cX8_record 41 = .ok (.getfield 37, 3) := by decide +kernel
theorem dX8_record_44 : decode cX8_record 44 = .ok (.iconst 1, 1) := by decide +kernel
theorem dX8_record_45 : decode cX8_record 45 = .ok (.isub, 1) := by decide +kernel
theorem dX8_record_46 : decode cX8_record 46 = .ok (.putfield 37, 3) := by decide +kernel
theorem dX8_record_49 : decode cX8_record 49 = .ok (.aload_n 0, 1) := by decide +kernel
theorem dX8_record_50 : decode cX8_record 50 = .ok (.getfield 7, 3) := by decide +kernel
theorem dX8_record_53 : decode cX8_record 53 = .ok (.iconst 0, 1) := by decide +kernel
theorem dX8_record_54 : decode cX8_record 54 = .ok (.aload_n 0, 1) := by decide +kernel
theorem dX8_record_55 : decode cX8_record 55 = .ok (.getfield 13, 3) := by decide +kernel
theorem dX8_record_58 : decode cX8_record 58 = .ok (.aload_n 0, 1) := by decide +kernel
theorem dX8_record_59 : decode cX8_record 59 = .ok (.getfield 37, 3) := by decide +kernel
theorem dX8_record_62 : decode cX8_record 62 = .ok (.sipush 3074, 3) := by decide +kernel
theorem dX8_record_65 : decode cX8_record 65 = .ok (.imul, 1) := by decide +kernel
theorem dX8_record_66 : decode cX8_record 66 = .ok (.invokestatic 41, 3) := by decide +kernel
theorem dX8_record_69 : decode cX8_record 69 = .ok (.aload_n 0, 1) := by decide +kernel
theorem dX8_record_70 : decode cX8_record 70 = .ok (.dup, 1) := by decide +kernel
theorem dX8_record_71 : decode cX8_record 71 = .ok (.getfield 37, 3) := by decide +kernel
theorem dX8_record_74 : decode cX8_record 74 = .ok (.iconst 1, 1) := by decide +kernel
theorem dX8_record_75 : decode cX8_record 75 = .ok (.iadd, 1) := by decide +kernel
theorem dX8_record_76 : decode cX8_record 76 = .ok (.putfield 37, 3) := by decide +kernel
theorem dX8_record_79 : decode cX8_record 79 = .ok (.return_, 1) := by decide +kernel
theorem dX8_isDigest_0 : decode cX8_isDigest 0 = .ok (.iload_n 0, 1) := by decide +kernel
theorem dX8_isDigest_1 : decode cX8_isDigest 1 = .ok (.iconst 0, 1) := by decide +kernel
theorem dX8_isDigest_2 : decode cX8_isDigest 2 = .ok (.iconst 2, 1) := by decide +kernel
theorem dX8_isDigest_3 : decode cX8_isDigest 3 = .ok (.invokestatic 45, 3) := by decide +kernel
theorem dX8_isDigest_6 : decode cX8_isDigest 6 = .ok (.ireturn, 1) := by decide +kernel
theorem dX8_part_0 : decode cX8_part 0 = .ok (.aload_n 0, 1) := by decide +kernel
theorem dX8_part_1 : decode cX8_part 1 = .ok (.getfield 7, 3) := by decide +kernel
theorem dX8_part_4 : decode cX8_part 4 = .ok (.iconst 2, 1) := by decide +kernel
theorem dX8_part_5 : decode cX8_part 5 = .ok (.sipush 1024, 3) := by decide +kernel
theorem dX8_part_8 : decode cX8_part 8 = .ok (.iload_n 1, 1) := by decide +kernel
theorem dX8_part_9 : decode cX8_part 9 = .ok (.imul, 1) := by decide +kernel
theorem dX8_part_10 : decode cX8_part 10 = .ok (.iadd, 1) := by decide +kernel
theorem dX8_part_11 : decode cX8_part 11 = .ok (.iload_n 2, 1) := by decide +kernel
theorem dX8_part_12 : decode cX8_part 12 = .ok (.iadd, 1) := by decide +kernel
theorem dX8_part_13 : decode cX8_part 13 = .ok (.iaload, 1) := by decide +kernel
theorem dX8_part_14 : decode cX8_part 14 = .ok (.ireturn, 1) := by decide +kernel
theorem dX8_setPart_0 : decode cX8_setPart 0 = .ok (.aload_n 0, 1) := by decide +kernel
theorem dX8_setPart_1 : decode cX8_setPart 1 = .ok (.getfield 7, 3) := by decide +kernel
theorem dX8_setPart_4 : decode cX8_setPart 4 = .ok (.iconst 2, 1) := by decide +kernel
theorem dX8_setPart_5 : decode cX8_setPart 5 = .ok (.sipush 1024, 3) := by decide +kernel
theorem dX8_setPart_8 : decode cX8_setPart 8 = .ok (.iload_n 1, 1) := by decide +kernel
theorem dX8_setPart_9 : decode cX8_setPart 9 = .ok (.imul, 1) := by decide +kernel
theorem dX8_setPart_10 : decode cX8_setPart 10 = .ok (.iadd, 1) := by decide +kernel
theorem dX8_setPart_11 : decode cX8_setPart 11 = .ok (.iload_n 2, 1) := by decide +kernel
theorem dX8_setPart_12 : decode cX8_setPart 12 = .ok (.iadd, 1) := by decide +kernel
theorem dX8_setPart_13 : decode cX8_setPart 13 = .ok (.iload_n 3, 1) := by decide +kernel
theorem dX8_setPart_14 : decode cX8_setPart 14 = .ok (.iastore, 1) := by decide +kernel
theorem dX8_setPart_15 : decode cX8_setPart 15 = .ok (.return_, 1) := by decide +kernel
theorem dX8_heapPart_0 : decode cX8_heapPart 0 = .ok (.aload_n 0, 1) := by decide +kernel
theorem dX8_heapPart_1 : decode cX8_heapPart 1 = .ok (.iload_n 1, 1) := by decide +kernel
theorem dX8_heapPart_2 : decode cX8_heapPart 2 = .ok (.iconst 4, 1) := by decide +kernel
theorem dX8_heapPart_3 : decode cX8_heapPart 3 = .ok (.iconst 4, 1) := by decide +kernel
theorem dX8_heapPart_4 : decode cX8_heapPart 4 = .ok (.iload_n 2, 1) := by decide +kernel
theorem dX8_heapPart_5 : decode cX8_heapPart 5 = .ok (.imul, 1) := by decide +kernel
theorem dX8_heapPart_6 : decode cX8_heapPart 6 = .ok (.iadd, 1) := by decide +kernel
theorem dX8_heapPart_7 : decode cX8_heapPart 7 = .ok (.iload_n 3, 1) := by decide +kernel
theorem dX8_heapPart_8 : decode cX8_heapPart 8 = .ok (.iadd, 1) := by decide +kernel
theorem dX8_heapPart_9 : decode cX8_heapPart 9 = .ok (.invokevirtual 49, 3) := by decide +kernel
theorem dX8_heapPart_12 : decode cX8_heapPart 12 = .ok (.ireturn, 1) := by decide +kernel
theorem dX8_weightOf_0 : decode cX8_weightOf 0 = .ok (.aload_n 0, 1) := by decide +kernel
theorem dX8_weightOf_1 : decode cX8_weightOf 1 = .ok (.iload_n 1, 1) := by decide +kernel
theorem dX8_weightOf_2 : decode cX8_weightOf 2 = .ok (.iconst 2, 1) := by decide +kernel
theorem dX8_weightOf_3 : decode cX8_weightOf 3 = .ok (.invokevirtual 49, 3) := by decide +kernel
theorem dX8_weightOf_6 : decode cX8_weightOf 6 = .ok (.ireturn, 1) := by decide +kernel
theorem dX8_takeHeap_0 : decode cX8_takeHeap 0 = .ok (.aload_n 0, 1) := by decide +kernel
theorem dX8_takeHeap_1 : decode cX8_takeHeap 1 = .ok (.getfield 19, 3) := by decide +kernel
theorem dX8_takeHeap_4 : decode cX8_takeHeap 4 = .ok (.aload_n 0, 1) := by decide +kernel
theorem dX8_takeHeap_5 : decode cX8_takeHeap 5 = .ok (.getfield 53, 3) := by decide +kernel
theorem dX8_takeHeap_8 : decode cX8_takeHeap 8 = .ok (.iload_n 1, 1) := by decide +kernel
theorem dX8_takeHeap_9 : decode cX8_takeHeap 9 = .ok (.iastore, 1) := by decide +kernel
theorem dX8_takeHeap_10 : decode cX8_takeHeap 10 = .ok (.aload_n 0, 1) := by decide +kernel
theorem dX8_takeHeap_11 : decode cX8_takeHeap 11 = .ok (.getfield 22, 3) := by decide +kernel
theorem dX8_takeHeap_14 : decode cX8_takeHeap 14 = .ok (.aload_n 0, 1) := by decide +kernel
theorem dX8_takeHeap_15 : decode cX8_takeHeap 15 = .ok (.getfield 53, 3) := by decide +kernel
theorem dX8_takeHeap_18 : decode cX8_takeHeap 18 = .ok (.iload_n 2, 1) := by decide +kernel
theorem dX8_takeHeap_19 : decode cX8_takeHeap 19 = .ok (.iastore, 1) := by decide +kernel
theorem dX8_takeHeap_20 : decode cX8_takeHeap 20 = .ok (.aload_n 0, 1) := by decide +kernel
theorem dX8_takeHeap_21 : decode cX8_takeHeap 21 = .ok (.getfield 25, 3) := by decide +kernel
theorem dX8_takeHeap_24 : decode cX8_takeHeap 24 = .ok (.aload_n 0, 1) := by decide +kernel
theorem dX8_takeHeap_25 : decode cX8_takeHeap 25 = .ok (.getfield 53, 3) := by decide +kernel
theorem dX8_takeHeap_28 : decode cX8_takeHeap 28 = .ok (.iload_n 3, 1) := by decide +kernel
theorem dX8_takeHeap_29 : decode cX8_takeHeap 29 = .ok (.iastore, 1) := by decide +kernel
theorem dX8_takeHeap_30 : decode cX8_takeHeap 30 = .ok (.aload_n 0, 1) := by decide +kernel
theorem dX8_takeHeap_31 : decode cX8_takeHeap 31 = .ok (.getfield 28, 3) := by decide +kernel
theorem dX8_takeHeap_34 : decode cX8_takeHeap 34 = .ok (.aload_n 0, 1) := by decide +kernel
theorem dX8_takeHeap_35 : decode cX8_takeHeap 35 = .ok (.getfield 53, 3) := by decide +kernel
theorem dX8_takeHeap_38 : decode cX8_takeHeap 38 = .ok (.iload 4, 2) := by decide +kernel
theorem dX8_takeHeap_40 : decode cX8_takeHeap 40 = .ok (.iastore, 1) := by decide +kernel
theorem dX8_takeHeap_41 : decode cX8_takeHeap 41 = .ok (.aload_n 0, 1) := by decide +kernel
theorem dX8_takeHeap_42 : decode cX8_takeHeap 42 = .ok (.dup, 1) := by decide +kernel
theorem dX8_takeHeap_43 : decode cX8_takeHeap 43 = .ok (.getfield 53, 3) := by decide +kernel
theorem dX8_takeHeap_46 : decode cX8_takeHeap 46 = .ok (.iconst 1, 1) := by decide +kernel
theorem dX8_takeHeap_47 : decode cX8_takeHeap 47 = .ok (.iadd, 1) := by decide +kernel
theorem dX8_takeHeap_48 : decode cX8_takeHeap 48 = .ok (.putfield 53, 3) := by decide +kernel
theorem dX8_takeHeap_51 : decode cX8_takeHeap 51 = .ok (.return_, 1) := by decide +kernel
theorem dX8_takeHeaps_0 : decode cX8_takeHeaps 0 = .ok (.iconst 0, 1) := by decide +kernel
theorem dX8_takeHeaps_1 : decode cX8_takeHeaps 1 = .ok (.istore_n 2, 1) := by decide +kernel
theorem dX8_takeHeaps_2 : decode cX8_takeHeaps 2 = .ok (.iload_n 2, 1) := by decide +kernel
theorem dX8_takeHeaps_3 : decode cX8_takeHeaps 3 = .ok (.aload_n 0, 1) := by decide +kernel
theorem dX8_takeHeaps_4 : decode cX8_takeHeaps 4 = .ok (.iload_n 1, 1) := by decide +kernel
theorem dX8_takeHeaps_5 : decode cX8_takeHeaps 5 = .ok (.iconst 0, 1) := by decide +kernel
theorem dX8_takeHeaps_6 : decode cX8_takeHeaps 6 = .ok (.invokevirtual 49, 3) := by decide +kernel
theorem dX8_takeHeaps_9 : decode cX8_takeHeaps 9 = .ok (.if_icmp .ge 41, 3) := by decide +kernel
theorem dX8_takeHeaps_12 : decode cX8_takeHeaps 12 = .ok (.aload_n 0, 1) := by decide +kernel
theorem dX8_takeHeaps_13 : decode cX8_takeHeaps 13 = .ok (.aload_n 0, 1) := by decide +kernel
theorem dX8_takeHeaps_14 : decode cX8_takeHeaps 14 = .ok (.iload_n 1, 1) := by decide +kernel
theorem dX8_takeHeaps_15 : decode cX8_takeHeaps 15 = .ok (.iload_n 2, 1) := by decide +kernel
theorem dX8_takeHeaps_16 : decode cX8_takeHeaps 16 = .ok (.iconst 0, 1) := by decide +kernel
theorem dX8_takeHeaps_17 : decode cX8_takeHeaps 17 = .ok (.invokevirtual 56, 3) := by decide +kernel
theorem dX8_takeHeaps_20 : decode cX8_takeHeaps 20 = .ok (.aload_n 0, 1) := by decide +kernel
theorem dX8_takeHeaps_21 : decode cX8_takeHeaps 21 = .ok (.iload_n 1, 1) := by decide +kernel
theorem dX8_takeHeaps_22 : decode cX8_takeHeaps 22 = .ok (.iload_n 2, 1) := by decide +kernel
theorem dX8_takeHeaps_23 : decode cX8_takeHeaps 23 = .ok (.iconst 1, 1) := by decide +kernel
theorem dX8_takeHeaps_24 : decode cX8_takeHeaps 24 = .ok (.invokevirtual 56, 3) := by decide +kernel
theorem dX8_takeHeaps_27 : decode cX8_takeHeaps 27 = .ok (.aload_n 0, 1) := by decide +kernel
theorem dX8_takeHeaps_28 : decode cX8_takeHeaps 28 = .ok (.iload_n 1, 1) := by decide +kernel
theorem dX8_takeHeaps_29 : decode cX8_takeHeaps 29 = .ok (.iload_n 2, 1) := by decide +kernel
theorem dX8_takeHeaps_30 : decode cX8_takeHeaps 30 = .ok (.iconst 2, 1) := by decide +kernel
theorem dX8_takeHeaps_31 : decode cX8_takeHeaps 31 = .ok (.invokevirtual 56, 3) := by decide +kernel
theorem dX8_takeHeaps_34 : decode cX8_takeHeaps 34 = .ok (.aload_n 0, 1) := by decide +kernel
theorem dX8_takeHeaps_35 : decode cX8_takeHeaps 35 = .ok (.iload_n 1, 1) := by decide +kernel
theorem dX8_takeHeaps_36 : decode cX8_takeHeaps 36 = .ok (.iload_n 2, 1) := by decide +kernel
theorem dX8_takeHeaps_37 : decode cX8_takeHeaps 37 = .ok (.iconst 3, 1) := by decide +kernel
theorem dX8_takeHeaps_38 : decode cX8_takeHeaps 38 = .ok (.invokevirtual 56, 3) := by decide +kernel
theorem dX8_takeHeaps_41 : decode cX8_takeHeaps 41 = .ok (.invokevirtual 60, 3) := by decide +kernel
theorem dX8_takeHeaps_44 : decode cX8_takeHeaps 44 = .ok (.iinc 2 1, 3) := by decide +kernel
theorem dX8_takeHeaps_47 : decode cX8_takeHeaps 47 = .ok (.goto (-45), 3) := by decide +kernel
theorem dX8_takeHeaps_50 : decode cX8_takeHeaps 50 = .ok (.return_, 1) := by decide +kernel
theorem dX8_takeBuffer_0 : decode cX8_takeBuffer 0 = .ok (.iconst 0, 1) := by decide +kernel
theorem dX8_takeBuffer_1 : decode cX8_takeBuffer 1 = .ok (.istore_n 2, 1) := by decide +kernel
theorem dX8_takeBuffer_2 : decode cX8_takeBuffer 2 = .ok (.iload_n 2, 1) := by decide +kernel
theorem dX8_takeBuffer_3 : decode cX8_takeBuffer 3 = .ok (.aload_n 0, 1) := by decide +kernel
theorem dX8_takeBuffer_4 : decode cX8_takeBuffer 4 = .ok (.iload_n 1, 1) := by decide +kernel
theorem dX8_takeBuffer_5 : decode cX8_takeBuffer 5 = .ok (.iconst 1, 1) := by decide +kernel
theorem dX8_takeBuffer_6 : decode cX8_takeBuffer 6 = .ok (.invokevirtual 49, 3) := by decide +kernel
theorem dX8_takeBuffer_9 : decode cX8_takeBuffer 9 = .ok (.if_icmp .ge 28, 3) := by decide +kernel
theorem dX8_takeBuffer_12 : decode cX8_takeBuffer 12 = .ok (.aload_n 0, 1) := by decide +kernel
theorem dX8_takeBuffer_13 : decode cX8_takeBuffer 13 = .ok (.iload_n 1, 1) := by decide +kernel
theorem dX8_takeBuffer_14 : decode cX8_takeBuffer 14 = .ok (.sipush 804, 3) := by decide +kernel
theorem dX8_takeBuffer_17 : decode cX8_takeBuffer 17 = .ok (.iload_n 2, 1) := by decide +kernel
theorem dX8_takeBuffer_18 : decode cX8_takeBuffer 18 = .ok (.iadd, 1) := by decide +kernel
theorem dX8_takeBuffer_19 : decode cX8_takeBuffer 19 = .ok (.invokevirtual 49, 3) := by decide +kernel
theorem dX8_takeBuffer_22 : decode cX8_takeBuffer 22 = .ok (.istore_n 3, 1) := by decide +kernel
theorem dX8_takeBuffer_23 : decode cX8_takeBuffer 23 = .ok (.aload_n 0, 1) := by decide +kernel
theorem dX8_takeBuffer_24 : decode cX8_takeBuffer 24 = .ok (.iconst 1, 1) := by decide +kernel
theorem dX8_takeBuffer_25 : decode cX8_takeBuffer 25 = .ok (.iload_n 3, 1) := by decide +kernel
theorem dX8_takeBuffer_26 : decode cX8_takeBuffer 26 = .ok (.iload_n 3, 1) := by decide +kernel
theorem dX8_takeBuffer_27 : decode cX8_takeBuffer 27 = .ok (.iload_n 3, 1) := by decide +kernel
theorem dX8_takeBuffer_28 : decode cX8_takeBuffer 28 = .ok (.invokevirtual 60, 3) := by decide +kernel
theorem dX8_takeBuffer_31 : decode cX8_takeBuffer 31 = .ok (.iinc 2 1, 3) := by decide +kernel
theorem dX8_takeBuffer_34 : decode cX8_takeBuffer 34 = .ok (.goto (-32), 3) := by decide +kernel
theorem dX8_takeBuffer_37 : decode cX8_takeBuffer 37 = .ok (.return_, 1) := by decide +kernel
theorem dX8_copyHeap_0 : decode cX8_copyHeap 0 = .ok (.aload_n 0, 1) := by decide +kernel
theorem dX8_copyHeap_1 : decode cX8_copyHeap 1 = .ok (.getfield 19, 3) := by decide +kernel
theorem dX8_copyHeap_4 : decode cX8_copyHeap 4 = .ok (.iload_n 2, 1) := by decide +kernel
theorem dX8_copyHeap_5 : decode cX8_copyHeap 5 = .ok (.aload_n 0, 1) := by decide +kernel
theorem dX8_copyHeap_6 : decode cX8_copyHeap 6 = .ok (.getfield 19, 3) := by decide +kernel
theorem dX8_copyHeap_9 : decode cX8_copyHeap 9 = .ok (.iload_n 1, 1) := by decide +kernel
theorem dX8_copyHeap_10 : decode cX8_copyHeap 10 = .ok (.iaload, 1) := by decide +kernel
theorem dX8_copyHeap_11 : decode cX8_copyHeap 11 = .ok (.iastore, 1) := by decide +kernel
theorem dX8_copyHeap_12 : decode cX8_copyHeap 12 = .ok (.aload_n 0, 1) := by decide +kernel
theorem dX8_copyHeap_13 : decode cX8_copyHeap 13 = .ok (.getfield 22, 3) := by decide +kernel
theorem dX8_copyHeap_16 : decode cX8_copyHeap 16 = .ok (.iload_n 2, 1) := by decide +kernel
theorem dX8_copyHeap_17 : decode cX8_copyHeap 17 = .ok (.aload_n 0, 1) := by decide +kernel
theorem dX8_copyHeap_18 : decode cX8_copyHeap 18 = .ok (.getfield 22, 3) := by decide +kernel
theorem dX8_copyHeap_21 : decode cX8_copyHeap 21 = .ok (.iload_n 1, 1) := by decide +kernel
theorem dX8_copyHeap_22 : decode cX8_copyHeap 22 = .ok (.iaload, 1) := by decide +kernel
theorem dX8_copyHeap_23 : decode cX8_copyHeap 23 = .ok (.iastore, 1) := by decide +kernel
theorem dX8_copyHeap_24 : decode cX8_copyHeap 24 = .ok (.aload_n 0, 1) := by decide +kernel
theorem dX8_copyHeap_25 : decode cX8_copyHeap 25 = .ok (.getfield 25, 3) := by decide +kernel
theorem dX8_copyHeap_28 : decode cX8_copyHeap 28 = .ok (.iload_n 2, 1) := by decide +kernel
theorem dX8_copyHeap_29 : decode cX8_copyHeap 29 = .ok (.aload_n 0, 1) := by decide +kernel
theorem dX8_copyHeap_30 : decode cX8_copyHeap 30 = .ok (.getfield 25, 3) := by decide +kernel
theorem dX8_copyHeap_33 : decode cX8_copyHeap 33 = .ok (.iload_n 1, 1) := by decide +kernel
theorem dX8_copyHeap_34 : decode cX8_copyHeap 34 = .ok (.iaload, 1) := by decide +kernel
theorem dX8_copyHeap_35 : decode cX8_copyHeap 35 = .ok (.iastore, 1) := by decide +kernel
theorem dX8_copyHeap_36 : decode cX8_copyHeap 36 = .ok (.aload_n 0, 1) := by decide +kernel
theorem dX8_copyHeap_37 : decode cX8_copyHeap 37 = .ok (.getfield 28, 3) := by decide +kernel
theorem dX8_copyHeap_40 : decode cX8_copyHeap 40 = .ok (.iload_n 2, 1) := by decide +kernel
theorem dX8_copyHeap_41 : decode cX8_copyHeap 41 = .ok (.aload_n 0, 1) := by decide +kernel
theorem dX8_copyHeap_42 : decode cX8_copyHeap 42 = .ok (.getfield 28, 3) := by decide +kernel
theorem dX8_copyHeap_45 : decode cX8_copyHeap 45 = .ok (.iload_n 1, 1) := by decide +kernel
theorem dX8_copyHeap_46 : decode cX8_copyHeap 46 = .ok (.iaload, 1) := by decide +kernel
theorem dX8_copyHeap_47 : decode cX8_copyHeap 47 = .ok (.iastore, 1) := by decide +kernel
theorem dX8_copyHeap_48 : decode cX8_copyHeap 48 = .ok (.return_, 1) := by decide +kernel
theorem dX8_putInOrder_0 : decode cX8_putInOrder 0 = .ok (.iconst 1, 1) := by decide +kernel
theorem dX8_putInOrder_1 : decode cX8_putInOrder 1 = .ok (.istore_n 1, 1) := by decide +kernel
theorem dX8_putInOrder_2 : decode cX8_putInOrder 2 = .ok (.iload_n 1, 1) := by decide +kernel
theorem dX8_putInOrder_3 : decode cX8_putInOrder 3 = .ok (.aload_n 0, 1) := by decide +kernel
theorem dX8_putInOrder_4 : decode cX8_putInOrder 4 = .ok (.getfield 53, 3) := by decide +kernel
theorem dX8_putInOrder_7 : decode cX8_putInOrder 7 = .ok (.if_icmp .ge 86, 3) := by decide +kernel
theorem dX8_putInOrder_10 : decode cX8_putInOrder 10 = .ok (.aload_n 0, 1) := by decide +kernel
theorem dX8_putInOrder_11 : decode cX8_putInOrder 11 = .ok (.iload_n 1, 1) := by decide +kernel
theorem dX8_putInOrder_12 : decode cX8_putInOrder 12 = .ok (.aload_n 0, 1) := by decide +kernel
theorem dX8_putInOrder_13 : decode cX8_putInOrder 13 = .ok (.getfield 53, 3) := by decide +kernel
theorem dX8_putInOrder_16 : decode cX8_putInOrder 16 = .ok (.invokevirtual 64, 3) := by decide +kernel
theorem dX8_putInOrder_19 : decode cX8_putInOrder 19 = .ok (.iload_n 1, 1) := by decide +kernel
theorem dX8_putInOrder_20 : decode cX8_putInOrder 20 = .ok (.istore_n 2, 1) := by decide +kernel
theorem dX8_putInOrder_21 : decode cX8_putInOrder 21 = .ok (.iload_n 2, 1) := by decide +kernel
theorem dX8_putInOrder_22 : decode cX8_putInOrder 22 = .ok (.ifCond .le 56, 3) := by decide +kernel
theorem dX8_putInOrder_25 : decode cX8_putInOrder 25 = .ok (.aload_n 0, 1) := by decide +kernel
theorem dX8_putInOrder_26 : decode cX8_putInOrder 26 = .ok (.getfield 22, 3) := by decide +kernel
theorem dX8_putInOrder_29 : decode cX8_putInOrder 29 = .ok (.iload_n 2, 1) := by decide +kernel
theorem dX8_putInOrder_30 : decode cX8_putInOrder 30 = .ok (.iconst 1, 1) := by decide +kernel
theorem dX8_putInOrder_31 : decode cX8_putInOrder 31 = .ok (.isub, 1) := by decide +kernel
theorem dX8_putInOrder_32 : decode cX8_putInOrder 32 = .ok (.iaload, 1) := by decide +kernel
theorem dX8_putInOrder_33 : decode cX8_putInOrder 33 = .ok (.aload_n 0, 1) := by decide +kernel
theorem dX8_putInOrder_34 : decode cX8_putInOrder 34 = .ok (.getfield 19, 3) := by decide +kernel
theorem dX8_putInOrder_37 : decode cX8_putInOrder 37 = .ok (.aload_n 0, 1) := by decide +kernel
theorem dX8_putInOrder_38 : decode cX8_putInOrder 38 = .ok (.getfield 53, 3) := by decide +kernel
theorem dX8_putInOrder_41 : decode cX8_putInOrder 41 = .ok (.iaload, 1) := by decide +kernel
theorem dX8_putInOrder_42 : decode cX8_putInOrder 42 = .ok (.imul, 1) := by decide +kernel
theorem dX8_putInOrder_43 : decode cX8_putInOrder 43 = .ok (.aload_n 0, 1) := by decide +kernel
theorem dX8_putInOrder_44 : decode cX8_putInOrder 44 = .ok (.getfield 22, 3) := by decide +kernel
theorem dX8_putInOrder_47 : decode cX8_putInOrder 47 = .ok (.aload_n 0, 1) := by decide +kernel
theorem dX8_putInOrder_48 : decode cX8_putInOrder 48 = .ok (.getfield 53, 3) := by decide +kernel
theorem dX8_putInOrder_51 : decode cX8_putInOrder 51 = .ok (.iaload, 1) := by decide +kernel
theorem dX8_putInOrder_52 : decode cX8_putInOrder 52 = .ok (.aload_n 0, 1) := by decide +kernel
theorem dX8_putInOrder_53 : decode cX8_putInOrder 53 = .ok (.getfield 19, 3) := by decide +kernel
theorem dX8_putInOrder_56 : decode cX8_putInOrder 56 = .ok (.iload_n 2, 1) := by decide +kernel
theorem dX8_putInOrder_57 : decode cX8_putInOrder 57 = .ok (.iconst 1, 1) := by decide +kernel
theorem dX8_putInOrder_58 : decode cX8_putInOrder 58 = .ok (.isub, 1) := by decide +kernel
theorem dX8_putInOrder_59 : decode cX8_putInOrder 59 = .ok (.iaload, 1) := by decide +kernel
theorem dX8_putInOrder_60 : decode cX8_putInOrder 60 = .ok (.imul, 1) := by decide +kernel
theorem dX8_putInOrder_61 : decode cX8_putInOrder 61 = .ok (.if_icmp .le 17, 3) := by decide +kernel
theorem dX8_putInOrder_64 : decode cX8_putInOrder 64 = .ok (.aload_n 0, 1) := by decide +kernel
theorem dX8_putInOrder_65 : decode cX8_putInOrder 65 = .ok (.iload_n 2, 1) := by decide +kernel
theorem dX8_putInOrder_66 : decode cX8_putInOrder 66 = .ok (.iconst 1, 1) := by decide +kernel
theorem dX8_putInOrder_67 : decode cX8_putInOrder 67 = .ok (.isub, 1) := by decide +kernel
theorem dX8_putInOrder_68 : decode cX8_putInOrder 68 = .ok (.iload_n 2, 1) := by decide +kernel
theorem dX8_putInOrder_69 : decode cX8_putInOrder 69 = .ok (.invokevirtual 64, 3) := by decide +kernel
theorem dX8_putInOrder_72 : decode cX8_putInOrder 72 = .ok (.iinc 2 (-1), 3) := by decide +kernel
theorem dX8_putInOrder_75 : decode cX8_putInOrder 75 = .ok (.goto (-54), 3) := by decide +kernel
theorem dX8_putInOrder_78 : decode cX8_putInOrder 78 = .ok (.aload_n 0, 1) := by decide +kernel
theorem dX8_putInOrder_79 : decode cX8_putInOrder 79 = .ok (.aload_n 0, 1) := by decide +kernel
theorem dX8_putInOrder_80 : decode cX8_putInOrder 80 = .ok (.getfield 53, 3) := by decide +kernel
theorem dX8_putInOrder_83 : decode cX8_putInOrder 83 = .ok (.iload_n 2, 1) := by decide +kernel
theorem dX8_putInOrder_84 : decode cX8_putInOrder 84 = .ok (.invokevirtual 64, 3) := by decide +kernel
theorem dX8_putInOrder_87 : decode cX8_putInOrder 87 = .ok (.iinc 1 1, 3) := by decide +kernel
theorem dX8_putInOrder_90 : decode cX8_putInOrder 90 = .ok (.goto (-88), 3) := by decide +kernel
theorem dX8_putInOrder_93 : decode cX8_putInOrder 93 = .ok (.return_, 1) := by decide +kernel
theorem dX8_putTogether_0 : decode cX8_putTogether 0 = .ok (.iconst 0, 1) := by decide +kernel
theorem dX8_putTogether_1 : decode cX8_putTogether 1 = .ok (.istore_n 2, 1) := by decide +kernel
theorem dX8_putTogether_2 : decode cX8_putTogether 2 = .ok (.iconst 0, 1) := by decide +kernel
theorem dX8_putTogether_3 : decode cX8_putTogether 3 = .ok (.istore_n 3, 1) := by decide +kernel
theorem dX8_putTogether_4 : decode cX8_putTogether 4 = .ok (.iload_n 3, 1) := by decide +kernel
theorem dX8_putTogether_5 : decode cX8_putTogether 5 = .ok (.aload_n 0, 1) := by decide +kernel
theorem dX8_putTogether_6 : decode cX8_putTogether 6 = .ok (.getfield 53, 3) := by decide +kernel
theorem dX8_putTogether_9 : decode cX8_putTogether 9 = .ok (.if_icmp .ge 18, 3) := by decide +kernel
theorem dX8_putTogether_12 : decode cX8_putTogether 12 = .ok (.iload_n 2, 1) := by decide +kernel
theorem dX8_putTogether_13 : decode cX8_putTogether 13 = .ok (.aload_n 0, 1) := by decide +kernel
theorem dX8_putTogether_14 : decode cX8_putTogether 14 = .ok (.getfield 19, 3) := by decide +kernel
theorem dX8_putTogether_17 : decode cX8_putTogether 17 = .ok (.iload_n 3, 1) := by decide +kernel
theorem dX8_putTogether_18 : decode cX8_putTogether 18 = .ok (.iaload, 1) := by decide +kernel
theorem dX8_putTogether_19 : decode cX8_putTogether 19 = .ok (.iadd, 1) := by decide +kernel
theorem dX8_putTogether_20 : decode cX8_putTogether 20 = .ok (.istore_n 2, 1) := by decide +kernel
theorem dX8_putTogether_21 : decode cX8_putTogether 21 = .ok (.iinc 3 1, 3) := by decide +kernel
theorem dX8_putTogether_24 : decode cX8_putTogether 24 = .ok (.goto (-20), 3) := by decide +kernel
theorem dX8_putTogether_27 : decode cX8_putTogether 27 = .ok (.iconst 0, 1) := by decide +kernel
theorem dX8_putTogether_28 : decode cX8_putTogether 28 = .ok (.istore_n 3, 1) := by decide +kernel
theorem dX8_putTogether_29 : decode cX8_putTogether 29 = .ok (.iconst 0, 1) := by decide +kernel
theorem dX8_putTogether_30 : decode cX8_putTogether 30 = .ok (.istore 4, 2) := by decide +kernel
theorem dX8_putTogether_32 : decode cX8_putTogether 32 = .ok (.iconst 1, 1) := by decide +kernel
theorem dX8_putTogether_33 : decode cX8_putTogether 33 = .ok (.istore 5, 2) := by decide +kernel
theorem dX8_putTogether_35 : decode cX8_putTogether 35 = .ok (.iload 5, 2) := by decide +kernel
theorem dX8_putTogether_37 : decode cX8_putTogether 37 = .ok (.aload_n 0, 1) := by decide +kernel
theorem dX8_putTogether_38 : decode cX8_putTogether 38 = .ok (.getfield 53, 3) := by decide +kernel
theorem dX8_putTogether_41 : decode cX8_putTogether 41 = .ok (.if_icmp .ge 177, 3) := by decide +kernel
theorem dX8_putTogether_44 : decode cX8_putTogether 44 = .ok (.aload_n 0, 1) := by decide +kernel
theorem dX8_putTogether_45 : decode cX8_putTogether 45 = .ok (.getfield 19, 3) := by decide +kernel
theorem dX8_putTogether_48 : decode cX8_putTogether 48 = .ok (.iload_n 3, 1) := by decide +kernel
theorem dX8_putTogether_49 : decode cX8_putTogether 49 = .ok (.iaload, 1) := by decide +kernel
theorem dX8_putTogether_50 : decode cX8_putTogether 50 = .ok (.aload_n 0, 1) := by decide +kernel
theorem dX8_putTogether_51 : decode cX8_putTogether 51 = .ok (.getfield 19, 3) := by decide +kernel
theorem dX8_putTogether_54 : decode cX8_putTogether 54 = .ok (.iload 5, 2) := by decide +kernel
theorem dX8_putTogether_56 : decode cX8_putTogether 56 = .ok (.iaload, 1) := by decide +kernel
theorem dX8_putTogether_57 : decode cX8_putTogether 57 = .ok (.iadd, 1) := by decide +kernel
theorem dX8_putTogether_58 : decode cX8_putTogether 58 = .ok (.istore 6, 2) := by decide +kernel
theorem dX8_putTogether_60 : decode cX8_putTogether 60 = .ok (.iload 6, 2) := by decide +kernel
theorem dX8_putTogether_62 : decode cX8_putTogether 62 = .ok (.iload_n 2, 1) := by decide +kernel
theorem dX8_putTogether_63 : decode cX8_putTogether 63 = .ok (.imul, 1) := by decide +kernel
theorem dX8_putTogether_64 : decode cX8_putTogether 64 = .ok (.iload_n 1, 1) := by decide +kernel
theorem dX8_putTogether_65 : decode cX8_putTogether 65 = .ok (.imul, 1) := by decide +kernel
theorem dX8_putTogether_66 : decode cX8_putTogether 66 = .ok (.iconst 2, 1) := by decide +kernel
theorem dX8_putTogether_67 : decode cX8_putTogether 67 = .ok (.iload 4, 2) := by decide +kernel
theorem dX8_putTogether_69 : decode cX8_putTogether 69 = .ok (.imul, 1) := by decide +kernel
theorem dX8_putTogether_70 : decode cX8_putTogether 70 = .ok (.iload 6, 2) := by decide +kernel
theorem dX8_putTogether_72 : decode cX8_putTogether 72 = .ok (.iadd, 1) := by decide +kernel
theorem dX8_putTogether_73 : decode cX8_putTogether 73 = .ok (.iconst 2, 1) := by decide +kernel
theorem dX8_putTogether_74 : decode cX8_putTogether 74 = .ok (.iload_n 2, 1) := by decide +kernel
theorem dX8_putTogether_75 : decode cX8_putTogether 75 = .ok (.imul, 1) := by decide +kernel
theorem dX8_putTogether_76 : decode cX8_putTogether 76 = .ok (.iconst 2, 1) := by decide +kernel
theorem dX8_putTogether_77 : decode cX8_putTogether 77 = .ok (.iload 4, 2) := by decide +kernel
theorem dX8_putTogether_79 : decode cX8_putTogether 79 = .ok (.imul, 1) := by decide +kernel
theorem dX8_putTogether_80 : decode cX8_putTogether 80 = .ok (.isub, 1) := by decide +kernel
theorem dX8_putTogether_81 : decode cX8_putTogether 81 = .ok (.iload 6, 2) := by decide +kernel
theorem dX8_putTogether_83 : decode cX8_putTogether 83 = .ok (.isub, 1) := by decide +kernel
theorem dX8_putTogether_84 : decode cX8_putTogether 84 = .ok (.imul, 1) := by decide +kernel
theorem dX8_putTogether_85 : decode cX8_putTogether 85 = .ok (.if_icmp .gt 106, 3) := by decide +kernel
theorem dX8_putTogether_88 : decode cX8_putTogether 88 = .ok (.aload_n 0, 1) := by decide +kernel
theorem dX8_putTogether_89 : decode cX8_putTogether 89 = .ok (.getfield 19, 3) := by decide +kernel
theorem dX8_putTogether_92 : decode cX8_putTogether 92 = .ok (.iload_n 3, 1) := by decide +kernel
theorem dX8_putTogether_93 : decode cX8_putTogether 93 = .ok (.iload 6, 2) := by decide +kernel
theorem dX8_putTogether_95 : decode cX8_putTogether 95 = .ok (.iastore, 1) := by decide +kernel
theorem dX8_putTogether_96 : decode cX8_putTogether 96 = .ok (.aload_n 0, 1) := by decide +kernel
theorem dX8_putTogether_97 : decode cX8_putTogether 97 = .ok (.getfield 22, 3) := by decide +kernel
theorem dX8_putTogether_100 : decode cX8_putTogether 100 = .ok (.iload_n 3, 1) := by decide +kernel
theorem dX8_putTogether_101 : decode cX8_putTogether 101 = .ok (.dup2, 1) := by decide +kernel
theorem dX8_putTogether_102 : decode cX8_putTogether 102 = .ok (.iaload, 1) := by decide +kernel
theorem dX8_putTogether_103 : decode cX8_putTogether 103 = .ok (.aload_n 0, 1) := by decide +kernel
theorem dX8_putTogether_104 : decode cX8_putTogether 104 = .ok (.getfield 22, 3) := by decide +kernel
theorem dX8_putTogether_107 : decode cX8_putTogether 107 = .ok (.iload 5, 2) := by decide +kernel
theorem dX8_putTogether_109 : decode cX8_putTogether 109 = .ok (.iaload, 1) := by decide +kernel
theorem dX8_putTogether_110 : decode cX8_putTogether 110 = .ok (.iadd, 1) := by decide +kernel
theorem dX8_putTogether_111 : decode cX8_putTogether 111 = .ok (.iastore, 1) := by decide +kernel
theorem dX8_putTogether_112 : decode cX8_putTogether 112 = .ok (.aload_n 0, 1) := by decide +kernel
theorem dX8_putTogether_113 : decode cX8_putTogether 113 = .ok (.getfield 25, 3) := by decide +kernel
theorem dX8_putTogether_116 : decode cX8_putTogether 116 = .ok (.iload_n 3, 1) := by decide +kernel
theorem dX8_putTogether_117 : decode cX8_putTogether 117 = .ok (.aload_n 0, 1) := by decide +kernel
theorem dX8_putTogether_118 : decode cX8_putTogether 118 = .ok (.getfield 25, 3) := by decide +kernel
theorem dX8_putTogether_121 : decode cX8_putTogether 121 = .ok (.iload 5, 2) := by decide +kernel
theorem dX8_putTogether_123 : decode cX8_putTogether 123 = .ok (.iaload, 1) := by decide +kernel
theorem dX8_putTogether_124 : decode cX8_putTogether 124 = .ok (.aload_n 0, 1) := by decide +kernel
theorem dX8_putTogether_125 : decode cX8_putTogether 125 = .ok (.getfield 25, 3) := by decide +kernel
theorem dX8_putTogether_128 : decode cX8_putTogether 128 = .ok (.iload_n 3, 1) := by decide +kernel
theorem dX8_putTogether_129 : decode cX8_putTogether 129 = .ok (.iaload, 1) := by decide +kernel
theorem dX8_putTogether_130 : decode cX8_putTogether 130 = .ok (.if_icmp .ge 13, 3) := by decide +kernel
theorem dX8_putTogether_133 : decode cX8_putTogether 133 = .ok (.aload_n 0, 1) := by decide +kernel
theorem dX8_putTogether_134 : decode cX8_putTogether 134 = .ok (.getfield 25, 3) := by decide +kernel
theorem dX8_putTogether_137 : decode cX8_putTogether 137 = .ok (.iload 5, 2) := by decide +kernel
theorem dX8_putTogether_139 : decode cX8_putTogether 139 = .ok (.iaload, 1) := by decide +kernel
theorem dX8_putTogether_140 : decode cX8_putTogether 140 = .ok (.goto 9, 3) := by decide +kernel
theorem dX8_putTogether_143 : decode cX8_putTogether 143 = .ok (.aload_n 0, 1) := by decide +kernel
theorem dX8_putTogether_144 : decode cX8_putTogether 144 = .ok (.getfield 25, 3) := by decide +kernel
theorem dX8_putTogether_147 : decode cX8_putTogether 147 = .ok (.iload_n 3, 1) := by decide +kernel
theorem dX8_putTogether_148 : decode cX8_putTogether 148 = .ok (.iaload, 1) := by decide +kernel
theorem dX8_putTogether_149 : decode cX8_putTogether 149 = .ok (.iastore, 1) := by decide +kernel
theorem dX8_putTogether_150 : decode cX8_putTogether 150 = .ok (.aload_n 0, 1) := by decide +kernel
theorem dX8_putTogether_151 : decode cX8_putTogether 151 = .ok (.getfield 28, 3) := by decide +kernel
theorem dX8_putTogether_154 : decode cX8_putTogether 154 = .ok (.iload_n 3, 1) := by decide +kernel
theorem dX8_putTogether_155 : decode cX8_putTogether 155 = .ok (.aload_n 0, 1) := by decide +kernel
theorem dX8_putTogether_156 : decode cX8_putTogether 156 = .ok (.getfield 28, 3) := by decide +kernel
theorem dX8_putTogether_159 : decode cX8_putTogether 159 = .ok (.iload 5, 2) := by decide +kernel
theorem dX8_putTogether_161 : decode cX8_putTogether 161 = .ok (.iaload, 1) := by decide +kernel
theorem dX8_putTogether_162 : decode cX8_putTogether 162 = .ok (.aload_n 0, 1) := by decide +kernel
theorem dX8_putTogether_163 : decode cX8_putTogether 163 = .ok (.getfield 28, 3) := by decide +kernel
theorem dX8_putTogether_166 : decode cX8_putTogether 166 = .ok (.iload_n 3, 1) := by decide +kernel
theorem dX8_putTogether_167 : decode cX8_putTogether 167 = .ok (.iaload, 1) := by decide +kernel
theorem dX8_putTogether_168 : decode cX8_putTogether 168 = .ok (.if_icmp .le 13, 3) := by decide +kernel
theorem dX8_putTogether_171 : decode cX8_putTogether 171 = .ok (.aload_n 0, 1) := by decide +kernel
theorem dX8_putTogether_172 : decode cX8_putTogether 172 = .ok (.getfield 28, 3) := by decide +kernel
theorem dX8_putTogether_175 : decode cX8_putTogether 175 = .ok (.iload 5, 2) := by decide +kernel
theorem dX8_putTogether_177 : decode cX8_putTogether 177 = .ok (.iaload, 1) := by decide +kernel
theorem dX8_putTogether_178 : decode cX8_putTogether 178 = .ok (.goto 9, 3) := by decide +kernel
theorem dX8_putTogether_181 : decode cX8_putTogether 181 = .ok (.aload_n 0, 1) := by decide +kernel
theorem dX8_putTogether_182 : decode cX8_putTogether 182 = .ok (.getfield 28, 3) := by decide +kernel
theorem dX8_putTogether_185 : decode cX8_putTogether 185 = .ok (.iload_n 3, 1) := by decide +kernel
theorem dX8_putTogether_186 : decode cX8_putTogether 186 = .ok (.iaload, 1) := by decide +kernel
theorem dX8_putTogether_187 : decode cX8_putTogether 187 = .ok (.iastore, 1) := by decide +kernel
theorem dX8_putTogether_188 : decode cX8_putTogether 188 = .ok (.goto 24, 3) := by decide +kernel
theorem dX8_putTogether_191 : decode cX8_putTogether 191 = .ok (.iload 4, 2) := by decide +kernel
theorem dX8_putTogether_193 : decode cX8_putTogether 193 = .ok (.aload_n 0, 1) := by decide +kernel
theorem dX8_putTogether_194 : decode cX8_putTogether 194 = .ok (.getfield 19, 3) := by decide +kernel
theorem dX8_putTogether_197 : decode cX8_putTogether 197 = .ok (.iload_n 3, 1) := by decide +kernel
theorem dX8_putTogether_198 : decode cX8_putTogether 198 = .ok (.iaload, 1) := by decide +kernel
theorem dX8_putTogether_199 : decode cX8_putTogether 199 = .ok (.iadd, 1) := by decide +kernel
end
section
theorem dX8_putTogether_200 : decode cX8_putTogether 200 = .ok (.istore 4, 2) := by decide +kernel
theorem dX8_putTogether_202 : decode cX8_putTogether 202 = .ok (.iinc 3 1, 3) := by decide +kernel
theorem dX8_putTogether_205 : decode cX8_putTogether 205 = .ok (.aload_n 0, 1) := by decide +kernel
theorem dX8_putTogether_206 : decode cX8_putTogether 206 = .ok (.iload 5, 2) := by decide +kernel
theorem dX8_putTogether_208 : decode cX8_putTogether 208 = .ok (.iload_n 3, 1) := by decide +kernel
theorem dX8_putTogether_209 : decode cX8_putTogether 209 = .ok (.invokevirtual 64, 3) := by decide +kernel
theorem dX8_putTogether_212 : decode cX8_putTogether 212 = .ok (.iinc 5 1, 3) := by decide +kernel
theorem dX8_putTogether_215 : decode cX8_putTogether 215 = .ok (.goto (-180), 3) := by decide +kernel
theorem dX8_putTogether_218 : decode cX8_putTogether 218 = .ok (.aload_n 0, 1) := by decide +kernel
theorem dX8_putTogether_219 : decode cX8_putTogether 219 = .ok (.aload_n 0, 1) := by decide +kernel
theorem dX8_putTogether_220 : decode cX8_putTogether 220 = .ok (.getfield 53, 3) := by decide +kernel
theorem dX8_putTogether_223 : decode cX8_putTogether 223 = .ok (.ifCond .ne 7, 3) := by decide +kernel
theorem dX8_putTogether_226 : decode cX8_putTogether 226 = .ok (.iconst 0, 1) := by decide +kernel
theorem dX8_putTogether_227 : decode cX8_putTogether 227 = .ok (.goto 6, 3) := by decide +kernel
theorem dX8_putTogether_230 : decode cX8_putTogether 230 = .ok (.iload_n 3, 1) := by decide +kernel
theorem dX8_putTogether_231 : decode cX8_putTogether 231 = .ok (.iconst 1, 1) := by decide +kernel
theorem dX8_putTogether_232 : decode cX8_putTogether 232 = .ok (.iadd, 1) := by decide +kernel
theorem dX8_putTogether_233 : decode cX8_putTogether 233 = .ok (.putfield 53, 3) := by decide +kernel
theorem dX8_putTogether_236 : decode cX8_putTogether 236 = .ok (.return_, 1) := by decide +kernel
theorem dX8_findPacked_0 : decode cX8_findPacked 0 = .ok (.aload_n 0, 1) := by decide +kernel
theorem dX8_findPacked_1 : decode cX8_findPacked 1 = .ok (.iconst 0, 1) := by decide +kernel
theorem dX8_findPacked_2 : decode cX8_findPacked 2 = .ok (.putfield 53, 3) := by decide +kernel
theorem dX8_findPacked_5 : decode cX8_findPacked 5 = .ok (.aload_n 0, 1) := by decide +kernel
theorem dX8_findPacked_6 : decode cX8_findPacked 6 = .ok (.iload_n 1, 1) := by decide +kernel
theorem dX8_findPacked_7 : decode cX8_findPacked 7 = .ok (.invokevirtual 68, 3) := by decide +kernel
theorem dX8_findPacked_10 : decode cX8_findPacked 10 = .ok (.aload_n 0, 1) := by decide +kernel
theorem dX8_findPacked_11 : decode cX8_findPacked 11 = .ok (.iload_n 1, 1) := by decide +kernel
theorem dX8_findPacked_12 : decode cX8_findPacked 12 = .ok (.invokevirtual 72, 3) := by decide +kernel
theorem dX8_findPacked_15 : decode cX8_findPacked 15 = .ok (.aload_n 0, 1) := by decide +kernel
theorem dX8_findPacked_16 : decode cX8_findPacked 16 = .ok (.invokevirtual 75, 3) := by decide +kernel
theorem dX8_findPacked_19 : decode cX8_findPacked 19 = .ok (.aload_n 0, 1) := by decide +kernel
theorem dX8_findPacked_20 : decode cX8_findPacked 20 = .ok (.aload_n 0, 1) := by decide +kernel
theorem dX8_findPacked_21 : decode cX8_findPacked 21 = .ok (.getfield 7, 3) := by decide +kernel
theorem dX8_findPacked_24 : decode cX8_findPacked 24 = .ok (.iconst 0, 1) := by decide +kernel
theorem dX8_findPacked_25 : decode cX8_findPacked 25 = .ok (.iaload, 1) := by decide +kernel
theorem dX8_findPacked_26 : decode cX8_findPacked 26 = .ok (.invokevirtual 78, 3) := by decide +kernel
theorem dX8_findPacked_29 : decode cX8_findPacked 29 = .ok (.return_, 1) := by decide +kernel
theorem dX8_giveHeaps_0 : decode cX8_giveHeaps 0 = .ok (.aload_n 0, 1) := by decide +kernel
theorem dX8_giveHeaps_1 : decode cX8_giveHeaps 1 = .ok (.iload_n 1, 1) := by decide +kernel
theorem dX8_giveHeaps_2 : decode cX8_giveHeaps 2 = .ok (.iconst 0, 1) := by decide +kernel
theorem dX8_giveHeaps_3 : decode cX8_giveHeaps 3 = .ok (.aload_n 0, 1) := by decide +kernel
theorem dX8_giveHeaps_4 : decode cX8_giveHeaps 4 = .ok (.getfield 53, 3) := by decide +kernel
theorem dX8_giveHeaps_7 : decode cX8_giveHeaps 7 = .ok (.invokevirtual 81, 3) := by decide +kernel
theorem dX8_giveHeaps_10 : decode cX8_giveHeaps 10 = .ok (.iconst 0, 1) := by decide +kernel
theorem dX8_giveHeaps_11 : decode cX8_giveHeaps 11 = .ok (.istore_n 2, 1) := by decide +kernel
theorem dX8_giveHeaps_12 : decode cX8_giveHeaps 12 = .ok (.iload_n 2, 1) := by decide +kernel
theorem dX8_giveHeaps_13 : decode cX8_giveHeaps 13 = .ok (.aload_n 0, 1) := by decide +kernel
theorem dX8_giveHeaps_14 : decode cX8_giveHeaps 14 = .ok (.getfield 53, 3) := by decide +kernel
theorem dX8_giveHeaps_17 : decode cX8_giveHeaps 17 = .ok (.if_icmp .ge 81, 3) := by decide +kernel
theorem dX8_giveHeaps_20 : decode cX8_giveHeaps 20 = .ok (.aload_n 0, 1) := by decide +kernel
theorem dX8_giveHeaps_21 : decode cX8_giveHeaps 21 = .ok (.iload_n 1, 1) := by decide +kernel
theorem dX8_giveHeaps_22 : decode cX8_giveHeaps 22 = .ok (.iconst 4, 1) := by decide +kernel
theorem dX8_giveHeaps_23 : decode cX8_giveHeaps 23 = .ok (.iconst 4, 1) := by decide +kernel
theorem dX8_giveHeaps_24 : decode cX8_giveHeaps 24 = .ok (.iload_n 2, 1) := by decide +kernel
theorem dX8_giveHeaps_25 : decode cX8_giveHeaps 25 = .ok (.imul, 1) := by decide +kernel
theorem dX8_giveHeaps_26 : decode cX8_giveHeaps 26 = .ok (.iadd, 1) := by decide +kernel
theorem dX8_giveHeaps_27 : decode cX8_giveHeaps 27 = .ok (.iconst 0, 1) := by decide +kernel
theorem dX8_giveHeaps_28 : decode cX8_giveHeaps 28 = .ok (.iadd, 1) := by decide +kernel
theorem dX8_giveHeaps_29 : decode cX8_giveHeaps 29 = .ok (.aload_n 0, 1) := by decide +kernel
theorem dX8_giveHeaps_30 : decode cX8_giveHeaps 30 = .ok (.getfield 19, 3) := by decide +kernel
theorem dX8_giveHeaps_33 : decode cX8_giveHeaps 33 = .ok (.iload_n 2, 1) := by decide +kernel
theorem dX8_giveHeaps_34 : decode cX8_giveHeaps 34 = .ok (.iaload, 1) := by decide +kernel
theorem dX8_giveHeaps_35 : decode cX8_giveHeaps 35 = .ok (.invokevirtual 81, 3) := by decide +kernel
theorem dX8_giveHeaps_38 : decode cX8_giveHeaps 38 = .ok (.aload_n 0, 1) := by decide +kernel
theorem dX8_giveHeaps_39 : decode cX8_giveHeaps 39 = .ok (.iload_n 1, 1) := by decide +kernel
theorem dX8_giveHeaps_40 : decode cX8_giveHeaps 40 = .ok (.iconst 4, 1) := by decide +kernel
theorem dX8_giveHeaps_41 : decode cX8_giveHeaps 41 = .ok (.iconst 4, 1) := by decide +kernel
theorem dX8_giveHeaps_42 : decode cX8_giveHeaps 42 = .ok (.iload_n 2, 1) := by decide +kernel
theorem dX8_giveHeaps_43 : decode cX8_giveHeaps 43 = .ok (.imul, 1) := by decide +kernel
theorem dX8_giveHeaps_44 : decode cX8_giveHeaps 44 = .ok (.iadd, 1) := by decide +kernel
theorem dX8_giveHeaps_45 : decode cX8_giveHeaps 45 = .ok (.iconst 1, 1) := by decide +kernel
theorem dX8_giveHeaps_46 : decode cX8_giveHeaps 46 = .ok (.iadd, 1) := by decide +kernel
theorem dX8_giveHeaps_47 : decode cX8_giveHeaps 47 = .ok (.aload_n 0, 1) := by decide +kernel
theorem dX8_giveHeaps_48 : decode cX8_giveHeaps 48 = .ok (.getfield 22, 3) := by decide +kernel
theorem dX8_giveHeaps_51 : decode cX8_giveHeaps 51 = .ok (.iload_n 2, 1) := by decide +kernel
theorem dX8_giveHeaps_52 : decode cX8_giveHeaps 52 = .ok (.iaload, 1) := by decide +kernel
theorem dX8_giveHeaps_53 : decode cX8_giveHeaps 53 = .ok (.invokevirtual 81, 3) := by decide +kernel
theorem dX8_giveHeaps_56 : decode cX8_giveHeaps 56 = .ok (.aload_n 0, 1) := by decide +kernel
theorem dX8_giveHeaps_57 : decode cX8_giveHeaps 57 = .ok (.iload_n 1, 1) := by decide +kernel
theorem dX8_giveHeaps_58 : decode cX8_giveHeaps 58 = .ok (.iconst 4, 1) := by decide +kernel
theorem dX8_giveHeaps_59 : decode cX8_giveHeaps 59 = .ok (.iconst 4, 1) := by decide +kernel
theorem dX8_giveHeaps_60 : decode cX8_giveHeaps 60 = .ok (.iload_n 2, 1) := by decide +kernel
theorem dX8_giveHeaps_61 : decode cX8_giveHeaps 61 = .ok (.imul, 1) := by decide +kernel
theorem dX8_giveHeaps_62 : decode cX8_giveHeaps 62 = .ok (.iadd, 1) := by decide +kernel
theorem dX8_giveHeaps_63 : decode cX8_giveHeaps 63 = .ok (.iconst 2, 1) := by decide +kernel
theorem dX8_giveHeaps_64 : decode cX8_giveHeaps 64 = .ok (.iadd, 1) := by decide +kernel
theorem dX8_giveHeaps_65 : decode cX8_giveHeaps 65 = .ok (.aload_n 0, 1) := by decide +kernel
theorem dX8_giveHeaps_66 : decode cX8_giveHeaps 66 = .ok (.getfield 25, 3) := by decide +kernel
theorem dX8_giveHeaps_69 : decode cX8_giveHeaps 69 = .ok (.iload_n 2, 1) := by decide +kernel
theorem dX8_giveHeaps_70 : decode cX8_giveHeaps 70 = .ok (.iaload, 1) := by decide +kernel
theorem dX8_giveHeaps_71 : decode cX8_giveHeaps 71 = .ok (.invokevirtual 81, 3) := by decide +kernel
theorem dX8_giveHeaps_74 : decode cX8_giveHeaps 74 = .ok (.aload_n 0, 1) := by decide +kernel
theorem dX8_giveHeaps_75 : decode cX8_giveHeaps 75 = .ok (.iload_n 1, 1) := by decide +kernel
theorem dX8_giveHeaps_76 : decode cX8_giveHeaps 76 = .ok (.iconst 4, 1) := by decide +kernel
theorem dX8_giveHeaps_77 : decode cX8_giveHeaps 77 = .ok (.iconst 4, 1) := by decide +kernel
theorem dX8_giveHeaps_78 : decode cX8_giveHeaps 78 = .ok (.iload_n 2, 1) := by decide +kernel
theorem dX8_giveHeaps_79 : decode cX8_giveHeaps 79 = .ok (.imul, 1) := by decide +kernel
theorem dX8_giveHeaps_80 : decode cX8_giveHeaps 80 = .ok (.iadd, 1) := by decide +kernel
theorem dX8_giveHeaps_81 : decode cX8_giveHeaps 81 = .ok (.iconst 3, 1) := by decide +kernel
theorem dX8_giveHeaps_82 : decode cX8_giveHeaps 82 = .ok (.iadd, 1) := by decide +kernel
theorem dX8_giveHeaps_83 : decode cX8_giveHeaps 83 = .ok (.aload_n 0, 1) := by decide +kernel
theorem dX8_giveHeaps_84 : decode cX8_giveHeaps 84 = .ok (.getfield 28, 3) := by decide +kernel
theorem dX8_giveHeaps_87 : decode cX8_giveHeaps 87 = .ok (.iload_n 2, 1) := by decide +kernel
theorem dX8_giveHeaps_88 : decode cX8_giveHeaps 88 = .ok (.iaload, 1) := by decide +kernel
theorem dX8_giveHeaps_89 : decode cX8_giveHeaps 89 = .ok (.invokevirtual 81, 3) := by decide +kernel
theorem dX8_giveHeaps_92 : decode cX8_giveHeaps 92 = .ok (.iinc 2 1, 3) := by decide +kernel
theorem dX8_giveHeaps_95 : decode cX8_giveHeaps 95 = .ok (.goto (-83), 3) := by decide +kernel
theorem dX8_giveHeaps_98 : decode cX8_giveHeaps 98 = .ok (.aload_n 0, 1) := by decide +kernel
theorem dX8_giveHeaps_99 : decode cX8_giveHeaps 99 = .ok (.iload_n 1, 1) := by decide +kernel
theorem dX8_giveHeaps_100 : decode cX8_giveHeaps 100 = .ok (.iconst 3, 1) := by decide +kernel
theorem dX8_giveHeaps_101 : decode cX8_giveHeaps 101 = .ok (.aload_n 0, 1) := by decide +kernel
theorem dX8_giveHeaps_102 : decode cX8_giveHeaps 102 = .ok (.iload_n 1, 1) := by decide +kernel
theorem dX8_giveHeaps_103 : decode cX8_giveHeaps 103 = .ok (.iconst 3, 1) := by decide +kernel
theorem dX8_giveHeaps_104 : decode cX8_giveHeaps 104 = .ok (.invokevirtual 49, 3) := by decide +kernel
theorem dX8_giveHeaps_107 : decode cX8_giveHeaps 107 = .ok (.iconst 1, 1) := by decide +kernel
theorem dX8_giveHeaps_108 : decode cX8_giveHeaps 108 = .ok (.iadd, 1) := by decide +kernel
theorem dX8_giveHeaps_109 : decode cX8_giveHeaps 109 = .ok (.invokevirtual 81, 3) := by decide +kernel
theorem dX8_giveHeaps_112 : decode cX8_giveHeaps 112 = .ok (.return_, 1) := by decide +kernel
theorem dX8_packs_0 : decode cX8_packs 0 = .ok (.aload_n 0, 1) := by decide +kernel
theorem dX8_packs_1 : decode cX8_packs 1 = .ok (.iload_n 1, 1) := by decide +kernel
theorem dX8_packs_2 : decode cX8_packs 2 = .ok (.invokevirtual 85, 3) := by decide +kernel
theorem dX8_packs_5 : decode cX8_packs 5 = .ok (.aload_n 0, 1) := by decide +kernel
theorem dX8_packs_6 : decode cX8_packs 6 = .ok (.iload_n 1, 1) := by decide +kernel
theorem dX8_packs_7 : decode cX8_packs 7 = .ok (.invokevirtual 88, 3) := by decide +kernel
theorem dX8_packs_10 : decode cX8_packs 10 = .ok (.aload_n 0, 1) := by decide +kernel
theorem dX8_packs_11 : decode cX8_packs 11 = .ok (.iload_n 1, 1) := by decide +kernel
theorem dX8_packs_12 : decode cX8_packs 12 = .ok (.iconst 1, 1) := by decide +kernel
theorem dX8_packs_13 : decode cX8_packs 13 = .ok (.iconst 0, 1) := by decide +kernel
theorem dX8_packs_14 : decode cX8_packs 14 = .ok (.invokevirtual 81, 3) := by decide +kernel
theorem dX8_packs_17 : decode cX8_packs 17 = .ok (.return_, 1) := by decide +kernel
theorem dX8_knows_0 : decode cX8_knows 0 = .ok (.aload_n 0, 1) := by decide +kernel
theorem dX8_knows_1 : decode cX8_knows 1 = .ok (.iload_n 1, 1) := by decide +kernel
theorem dX8_knows_2 : decode cX8_knows 2 = .ok (.sipush 824, 3) := by decide +kernel
theorem dX8_knows_5 : decode cX8_knows 5 = .ok (.aload_n 0, 1) := by decide +kernel
theorem dX8_knows_6 : decode cX8_knows 6 = .ok (.iload_n 1, 1) := by decide +kernel
theorem dX8_knows_7 : decode cX8_knows 7 = .ok (.iconst 2, 1) := by decide +kernel
theorem dX8_knows_8 : decode cX8_knows 8 = .ok (.invokevirtual 49, 3) := by decide +kernel
theorem dX8_knows_11 : decode cX8_knows 11 = .ok (.iadd, 1) := by decide +kernel
theorem dX8_knows_12 : decode cX8_knows 12 = .ok (.iload_n 2, 1) := by decide +kernel
theorem dX8_knows_13 : decode cX8_knows 13 = .ok (.invokevirtual 81, 3) := by decide +kernel
theorem dX8_knows_16 : decode cX8_knows 16 = .ok (.aload_n 0, 1) := by decide +kernel
theorem dX8_knows_17 : decode cX8_knows 17 = .ok (.iload_n 1, 1) := by decide +kernel
theorem dX8_knows_18 : decode cX8_knows 18 = .ok (.iconst 2, 1) := by decide +kernel
theorem dX8_knows_19 : decode cX8_knows 19 = .ok (.aload_n 0, 1) := by decide +kernel
theorem dX8_knows_20 : decode cX8_knows 20 = .ok (.iload_n 1, 1) := by decide +kernel
theorem dX8_knows_21 : decode cX8_knows 21 = .ok (.iconst 2, 1) := by decide +kernel
theorem dX8_knows_22 : decode cX8_knows 22 = .ok (.invokevirtual 49, 3) := by decide +kernel
theorem dX8_knows_25 : decode cX8_knows 25 = .ok (.iconst 1, 1) := by decide +kernel
theorem dX8_knows_26 : decode cX8_knows 26 = .ok (.iadd, 1) := by decide +kernel
theorem dX8_knows_27 : decode cX8_knows 27 = .ok (.invokevirtual 81, 3) := by decide +kernel
theorem dX8_knows_30 : decode cX8_knows 30 = .ok (.return_, 1) := by decide +kernel
theorem dX8_comes_0 : decode cX8_comes 0 = .ok (.aload_n 0, 1) := by decide +kernel
theorem dX8_comes_1 : decode cX8_comes 1 = .ok (.iload_n 1, 1) := by decide +kernel
theorem dX8_comes_2 : decode cX8_comes 2 = .ok (.iconst 1, 1) := by decide +kernel
theorem dX8_comes_3 : decode cX8_comes 3 = .ok (.invokevirtual 49, 3) := by decide +kernel
theorem dX8_comes_6 : decode cX8_comes 6 = .ok (.aload_n 0, 1) := by decide +kernel
theorem dX8_comes_7 : decode cX8_comes 7 = .ok (.getfield 7, 3) := by decide +kernel
theorem dX8_comes_10 : decode cX8_comes 10 = .ok (.iconst 1, 1) := by decide +kernel
theorem dX8_comes_11 : decode cX8_comes 11 = .ok (.iaload, 1) := by decide +kernel
theorem dX8_comes_12 : decode cX8_comes 12 = .ok (.if_icmp .lt 8, 3) := by decide +kernel
theorem dX8_comes_15 : decode cX8_comes 15 = .ok (.aload_n 0, 1) := by decide +kernel
theorem dX8_comes_16 : decode cX8_comes 16 = .ok (.iload_n 1, 1) := by decide +kernel
theorem dX8_comes_17 : decode cX8_comes 17 = .ok (.invokevirtual 91, 3) := by decide +kernel
theorem dX8_comes_20 : decode cX8_comes 20 = .ok (.aload_n 0, 1) := by decide +kernel
theorem dX8_comes_21 : decode cX8_comes 21 = .ok (.iload_n 1, 1) := by decide +kernel
theorem dX8_comes_22 : decode cX8_comes 22 = .ok (.sipush 804, 3) := by decide +kernel
theorem dX8_comes_25 : decode cX8_comes 25 = .ok (.aload_n 0, 1) := by decide +kernel
theorem dX8_comes_26 : decode cX8_comes 26 = .ok (.iload_n 1, 1) := by decide +kernel
theorem dX8_comes_27 : decode cX8_comes 27 = .ok (.iconst 1, 1) := by decide +kernel
theorem dX8_comes_28 : decode cX8_comes 28 = .ok (.invokevirtual 49, 3) := by decide +kernel
theorem dX8_comes_31 : decode cX8_comes 31 = .ok (.iadd, 1) := by decide +kernel
theorem dX8_comes_32 : decode cX8_comes 32 = .ok (.iload_n 2, 1) := by decide +kernel
theorem dX8_comes_33 : decode cX8_comes 33 = .ok (.invokevirtual 81, 3) := by decide +kernel
theorem dX8_comes_36 : decode cX8_comes 36 = .ok (.aload_n 0, 1) := by decide +kernel
theorem dX8_comes_37 : decode cX8_comes 37 = .ok (.iload_n 1, 1) := by decide +kernel
theorem dX8_comes_38 : decode cX8_comes 38 = .ok (.iconst 1, 1) := by decide +kernel
theorem dX8_comes_39 : decode cX8_comes 39 = .ok (.aload_n 0, 1) := by decide +kernel
theorem dX8_comes_40 : decode cX8_comes 40 = .ok (.iload_n 1, 1) := by decide +kernel
theorem dX8_comes_41 : decode cX8_comes 41 = .ok (.iconst 1, 1) := by decide +kernel
theorem dX8_comes_42 : decode cX8_comes 42 = .ok (.invokevirtual 49, 3) := by decide +kernel
theorem dX8_comes_45 : decode cX8_comes 45 = .ok (.iconst 1, 1) := by decide +kernel
theorem dX8_comes_46 : decode cX8_comes 46 = .ok (.iadd, 1) := by decide +kernel
theorem dX8_comes_47 : decode cX8_comes 47 = .ok (.invokevirtual 81, 3) := by decide +kernel
theorem dX8_comes_50 : decode cX8_comes 50 = .ok (.aload_n 0, 1) := by decide +kernel
theorem dX8_comes_51 : decode cX8_comes 51 = .ok (.iload_n 1, 1) := by decide +kernel
theorem dX8_comes_52 : decode cX8_comes 52 = .ok (.iload_n 2, 1) := by decide +kernel
theorem dX8_comes_53 : decode cX8_comes 53 = .ok (.invokevirtual 94, 3) := by decide +kernel
theorem dX8_comes_56 : decode cX8_comes 56 = .ok (.return_, 1) := by decide +kernel
theorem dX8_add_0 : decode cX8_add 0 = .ok (.iload_n 1, 1) := by decide +kernel
theorem dX8_add_1 : decode cX8_add 1 = .ok (.invokestatic 97, 3) := by decide +kernel
theorem dX8_add_4 : decode cX8_add 4 = .ok (.ifCond .eq 24, 3) := by decide +kernel
theorem dX8_add_7 : decode cX8_add 7 = .ok (.iload_n 2, 1) := by decide +kernel
theorem dX8_add_8 : decode cX8_add 8 = .ok (.iconst 0, 1) := by decide +kernel
theorem dX8_add_9 : decode cX8_add 9 = .ok (.sipush 9999, 3) := by decide +kernel
theorem dX8_add_12 : decode cX8_add 12 = .ok (.invokestatic 45, 3) := by decide +kernel
theorem dX8_add_15 : decode cX8_add 15 = .ok (.ifCond .eq 13, 3) := by decide +kernel
theorem dX8_add_18 : decode cX8_add 18 = .ok (.iload_n 3, 1) := by decide +kernel
theorem dX8_add_19 : decode cX8_add 19 = .ok (.iconst 1, 1) := by decide +kernel
theorem dX8_add_20 : decode cX8_add 20 = .ok (.bipush 20, 2) := by decide +kernel
theorem dX8_add_22 : decode cX8_add 22 = .ok (.invokestatic 45, 3) := by decide +kernel
theorem dX8_add_25 : decode cX8_add 25 = .ok (.ifCond .ne 6, 3) := by decide +kernel
theorem dX8_add_28 : decode cX8_add 28 = .ok (.ldc 101, 2) := by decide +kernel
theorem dX8_add_30 : decode cX8_add 30 = .ok (.ireturn, 1) := by decide +kernel
theorem dX8_add_31 : decode cX8_add 31 = .ok (.aload_n 0, 1) := by decide +kernel
theorem dX8_add_32 : decode cX8_add 32 = .ok (.iload_n 1, 1) := by decide +kernel
theorem dX8_add_33 : decode cX8_add 33 = .ok (.invokevirtual 102, 3) := by decide +kernel
theorem dX8_add_36 : decode cX8_add 36 = .ok (.iload_n 3, 1) := by decide +kernel
theorem dX8_add_37 : decode cX8_add 37 = .ok (.iadd, 1) := by decide +kernel
theorem dX8_add_38 : decode cX8_add 38 = .ok (.sipush 200, 3) := by decide +kernel
theorem dX8_add_41 : decode cX8_add 41 = .ok (.if_icmp .le 6, 3) := by decide +kernel
theorem dX8_add_44 : decode cX8_add 44 = .ok (.ldc 106, 2) := by decide +kernel
theorem dX8_add_46 : decode cX8_add 46 = .ok (.ireturn, 1) := by decide +kernel
theorem dX8_add_47 : decode cX8_add 47 = .ok (.aload_n 0, 1) := by decide +kernel
theorem dX8_add_48 : decode cX8_add 48 = .ok (.invokevirtual 107, 3) := by decide +kernel
theorem dX8_add_51 : decode cX8_add 51 = .ok (.iconst 0, 1) := by decide +kernel
theorem dX8_add_52 : decode cX8_add 52 = .ok (.istore 4, 2) := by decide +kernel
theorem dX8_add_54 : decode cX8_add 54 = .ok (.iload 4, 2) := by decide +kernel
theorem dX8_add_56 : decode cX8_add 56 = .ok (.iload_n 3, 1) := by decide +kernel
theorem dX8_add_57 : decode cX8_add 57 = .ok (.if_icmp .ge 15, 3) := by decide +kernel
theorem dX8_add_60 : decode cX8_add 60 = .ok (.aload_n 0, 1) := by decide +kernel
theorem dX8_add_61 : decode cX8_add 61 = .ok (.iload_n 1, 1) := by decide +kernel
theorem dX8_add_62 : decode cX8_add 62 = .ok (.iload_n 2, 1) := by decide +kernel
theorem dX8_add_63 : decode cX8_add 63 = .ok (.invokevirtual 110, 3) := by decide +kernel
theorem dX8_add_66 : decode cX8_add 66 = .ok (.iinc 4 1, 3) := by decide +kernel
theorem dX8_add_69 : decode cX8_add 69 = .ok (.goto (-15), 3) := by decide +kernel
theorem dX8_add_72 : decode cX8_add 72 = .ok (.aload_n 0, 1) := by decide +kernel
theorem dX8_add_73 : decode cX8_add 73 = .ok (.iload_n 1, 1) := by decide +kernel
theorem dX8_add_74 : decode cX8_add 74 = .ok (.invokevirtual 102, 3) := by decide +kernel
theorem dX8_add_77 : decode cX8_add 77 = .ok (.ireturn, 1) := by decide +kernel
theorem dX8_pack_0 : decode cX8_pack 0 = .ok (.iload_n 1, 1) := by decide +kernel
theorem dX8_pack_1 : decode cX8_pack 1 = .ok (.invokestatic 97, 3) := by decide +kernel
theorem dX8_pack_4 : decode cX8_pack 4 = .ok (.ifCond .ne 6, 3) := by decide +kernel
theorem dX8_pack_7 : decode cX8_pack 7 = .ok (.ldc 101, 2) := by decide +kernel
theorem dX8_pack_9 : decode cX8_pack 9 = .ok (.ireturn, 1) := by decide +kernel
theorem dX8_pack_10 : decode cX8_pack 10 = .ok (.aload_n 0, 1) := by decide +kernel
theorem dX8_pack_11 : decode cX8_pack 11 = .ok (.invokevirtual 107, 3) := by decide +kernel
theorem dX8_pack_14 : decode cX8_pack 14 = .ok (.aload_n 0, 1) := by decide +kernel
theorem dX8_pack_15 : decode cX8_pack 15 = .ok (.iload_n 1, 1) := by decide +kernel
theorem dX8_pack_16 : decode cX8_pack 16 = .ok (.invokevirtual 91, 3) := by decide +kernel
theorem dX8_pack_19 : decode cX8_pack 19 = .ok (.aload_n 0, 1) := by decide +kernel
theorem dX8_pack_20 : decode cX8_pack 20 = .ok (.getfield 53, 3) := by decide +kernel
theorem dX8_pack_23 : decode cX8_pack 23 = .ok (.ireturn, 1) := by decide +kernel
theorem dX8_join_0 : decode cX8_join 0 = .ok (.iload_n 1, 1) := by decide +kernel
theorem dX8_join_1 : decode cX8_join 1 = .ok (.invokestatic 97, 3) := by decide +kernel
theorem dX8_join_4 : decode cX8_join 4 = .ok (.ifCond .eq 15, 3) := by decide +kernel
theorem dX8_join_7 : decode cX8_join 7 = .ok (.iload_n 2, 1) := by decide +kernel
theorem dX8_join_8 : decode cX8_join 8 = .ok (.invokestatic 97, 3) := by decide +kernel
theorem dX8_join_11 : decode cX8_join 11 = .ok (.ifCond .eq 8, 3) := by decide +kernel
theorem dX8_join_14 : decode cX8_join 14 = .ok (.iload_n 1, 1) := by decide +kernel
theorem dX8_join_15 : decode cX8_join 15 = .ok (.iload_n 2, 1) := by decide +kernel
theorem dX8_join_16 : decode cX8_join 16 = .ok (.if_icmp .ne 6, 3) := by decide +kernel
theorem dX8_join_19 : decode cX8_join 19 = .ok (.ldc 101, 2) := by decide +kernel
theorem dX8_join_21 : decode cX8_join 21 = .ok (.ireturn, 1) := by decide +kernel
theorem dX8_join_22 : decode cX8_join 22 = .ok (.aload_n 0, 1) := by decide +kernel
theorem dX8_join_23 : decode cX8_join 23 = .ok (.iload_n 1, 1) := by decide +kernel
theorem dX8_join_24 : decode cX8_join 24 = .ok (.invokevirtual 102, 3) := by decide +kernel
theorem dX8_join_27 : decode cX8_join 27 = .ok (.aload_n 0, 1) := by decide +kernel
theorem dX8_join_28 : decode cX8_join 28 = .ok (.iload_n 2, 1) := by decide +kernel
theorem dX8_join_29 : decode cX8_join 29 = .ok (.invokevirtual 102, 3) := by decide +kernel
theorem dX8_join_32 : decode cX8_join 32 = .ok (.iadd, 1) := by decide +kernel
theorem dX8_join_33 : decode cX8_join 33 = .ok (.sipush 200, 3) := by decide +kernel
theorem dX8_join_36 : decode cX8_join 36 = .ok (.if_icmp .le 6, 3) := by decide +kernel
theorem dX8_join_39 : decode cX8_join 39 = .ok (.ldc 106, 2) := by decide +kernel
theorem dX8_join_41 : decode cX8_join 41 = .ok (.ireturn, 1) := by decide +kernel
theorem dX8_join_42 : decode cX8_join 42 = .ok (.aload_n 0, 1) := by decide +kernel
theorem dX8_join_43 : decode cX8_join 43 = .ok (.invokevirtual 107, 3) := by decide +kernel
theorem dX8_join_46 : decode cX8_join 46 = .ok (.aload_n 0, 1) := by decide +kernel
theorem dX8_join_47 : decode cX8_join 47 = .ok (.iload_n 1, 1) := by decide +kernel
theorem dX8_join_48 : decode cX8_join 48 = .ok (.invokevirtual 91, 3) := by decide +kernel
theorem dX8_join_51 : decode cX8_join 51 = .ok (.aload_n 0, 1) := by decide +kernel
theorem dX8_join_52 : decode cX8_join 52 = .ok (.iload_n 2, 1) := by decide +kernel
theorem dX8_join_53 : decode cX8_join 53 = .ok (.invokevirtual 91, 3) := by decide +kernel
theorem dX8_join_56 : decode cX8_join 56 = .ok (.aload_n 0, 1) := by decide +kernel
theorem dX8_join_57 : decode cX8_join 57 = .ok (.iconst 0, 1) := by decide +kernel
theorem dX8_join_58 : decode cX8_join 58 = .ok (.putfield 53, 3) := by decide +kernel
theorem dX8_join_61 : decode cX8_join 61 = .ok (.aload_n 0, 1) := by decide +kernel
theorem dX8_join_62 : decode cX8_join 62 = .ok (.iload_n 2, 1) := by decide +kernel
theorem dX8_join_63 : decode cX8_join 63 = .ok (.invokevirtual 68, 3) := by decide +kernel
theorem dX8_join_66 : decode cX8_join 66 = .ok (.aload_n 0, 1) := by decide +kernel
theorem dX8_join_67 : decode cX8_join 67 = .ok (.iload_n 1, 1) := by decide +kernel
theorem dX8_join_68 : decode cX8_join 68 = .ok (.invokevirtual 68, 3) := by decide +kernel
theorem dX8_join_71 : decode cX8_join 71 = .ok (.aload_n 0, 1) := by decide +kernel
theorem dX8_join_72 : decode cX8_join 72 = .ok (.invokevirtual 75, 3) := by decide +kernel
theorem dX8_join_75 : decode cX8_join 75 = .ok (.aload_n 0, 1) := by decide +kernel
theorem dX8_join_76 : decode cX8_join 76 = .ok (.aload_n 0, 1) := by decide +kernel
theorem dX8_join_77 : decode cX8_join 77 = .ok (.getfield 7, 3) := by decide +kernel
theorem dX8_join_80 : decode cX8_join 80 = .ok (.iconst 0, 1) := by decide +kernel
theorem dX8_join_81 : decode cX8_join 81 = .ok (.iaload, 1) := by decide +kernel
theorem dX8_join_82 : decode cX8_join 82 = .ok (.invokevirtual 78, 3) := by decide +kernel
theorem dX8_join_85 : decode cX8_join 85 = .ok (.aload_n 0, 1) := by decide +kernel
theorem dX8_join_86 : decode cX8_join 86 = .ok (.iload_n 2, 1) := by decide +kernel
theorem dX8_join_87 : decode cX8_join 87 = .ok (.invokevirtual 88, 3) := by decide +kernel
theorem dX8_join_90 : decode cX8_join 90 = .ok (.iconst 0, 1) := by decide +kernel
theorem dX8_join_91 : decode cX8_join 91 = .ok (.istore_n 3, 1) := by decide +kernel
theorem dX8_join_92 : decode cX8_join 92 = .ok (.iload_n 3, 1) := by decide +kernel
theorem dX8_join_93 : decode cX8_join 93 = .ok (.aload_n 0, 1) := by decide +kernel
theorem dX8_join_94 : decode cX8_join 94 = .ok (.iload_n 1, 1) := by decide +kernel
theorem dX8_join_95 : decode cX8_join 95 = .ok (.iconst 2, 1) := by decide +kernel
theorem dX8_join_96 : decode cX8_join 96 = .ok (.invokevirtual 49, 3) := by decide +kernel
theorem dX8_join_99 : decode cX8_join 99 = .ok (.if_icmp .ge 24, 3) := by decide +kernel
theorem dX8_join_102 : decode cX8_join 102 = .ok (.aload_n 0, 1) := by decide +kernel
theorem dX8_join_103 : decode cX8_join 103 = .ok (.iload_n 2, 1) := by decide +kernel
theorem dX8_join_104 : decode cX8_join 104 = .ok (.aload_n 0, 1) := by decide +kernel
theorem dX8_join_105 : decode cX8_join 105 = .ok (.iload_n 1, 1) := by decide +kernel
theorem dX8_join_106 : decode cX8_join 106 = .ok (.sipush 824, 3) := by decide +kernel
theorem dX8_join_109 : decode cX8_join 109 = .ok (.iload_n 3, 1) := by decide +kernel
theorem dX8_join_110 : decode cX8_join 110 = .ok (.iadd, 1) := by decide +kernel
theorem dX8_join_111 : decode cX8_join 111 = .ok (.invokevirtual 49, 3) := by decide +kernel
theorem dX8_join_114 : decode cX8_join 114 = .ok (.invokevirtual 94, 3) := by decide +kernel
theorem dX8_join_117 : decode cX8_join 117 = .ok (.iinc 3 1, 3) := by decide +kernel
theorem dX8_join_120 : decode cX8_join 120 = .ok (.goto (-28), 3) := by decide +kernel
theorem dX8_join_123 : decode cX8_join 123 = .ok (.aload_n 0, 1) := by decide +kernel
theorem dX8_join_124 : decode cX8_join 124 = .ok (.iload_n 2, 1) := by decide +kernel
theorem dX8_join_125 : decode cX8_join 125 = .ok (.invokevirtual 102, 3) := by decide +kernel
theorem dX8_join_128 : decode cX8_join 128 = .ok (.ireturn, 1) := by decide +kernel
theorem dX8_clear_0 : decode cX8_clear 0 = .ok (.iload_n 1, 1) := by decide +kernel
theorem dX8_clear_1 : decode cX8_clear 1 = .ok (.invokestatic 97, 3) := by decide +kernel
theorem dX8_clear_4 : decode cX8_clear 4 = .ok (.ifCond .ne 6, 3) := by decide +kernel
theorem dX8_clear_7 : decode cX8_clear 7 = .ok (.ldc 101, 2) := by decide +kernel
theorem dX8_clear_9 : decode cX8_clear 9 = .ok (.ireturn, 1) := by decide +kernel
theorem dX8_clear_10 : decode cX8_clear 10 = .ok (.aload_n 0, 1) := by decide +kernel
theorem dX8_clear_11 : decode cX8_clear 11 = .ok (.invokevirtual 107, 3) := by decide +kernel
theorem dX8_clear_14 : decode cX8_clear 14 = .ok (.aload_n 0, 1) := by decide +kernel
theorem dX8_clear_15 : decode cX8_clear 15 = .ok (.iload_n 1, 1) := by decide +kernel
theorem dX8_clear_16 : decode cX8_clear 16 = .ok (.invokevirtual 102, 3) := by decide +kernel
theorem dX8_clear_19 : decode cX8_clear 19 = .ok (.istore_n 2, 1) := by decide +kernel
theorem dX8_clear_20 : decode cX8_clear 20 = .ok (.aload_n 0, 1) := by decide +kernel
theorem dX8_clear_21 : decode cX8_clear 21 = .ok (.iload_n 1, 1) := by decide +kernel
theorem dX8_clear_22 : decode cX8_clear 22 = .ok (.iconst 0, 1) := by decide +kernel
theorem dX8_clear_23 : decode cX8_clear 23 = .ok (.iconst 0, 1) := by decide +kernel
theorem dX8_clear_24 : decode cX8_clear 24 = .ok (.invokevirtual 81, 3) := by decide +kernel
theorem dX8_clear_27 : decode cX8_clear 27 = .ok (.aload_n 0, 1) := by decide +kernel
theorem dX8_clear_28 : decode cX8_clear 28 = .ok (.iload_n 1, 1) := by decide +kernel
theorem dX8_clear_29 : decode cX8_clear 29 = .ok (.iconst 1, 1) := by decide +kernel
theorem dX8_clear_30 : decode cX8_clear 30 = .ok (.iconst 0, 1) := by decide +kernel
theorem dX8_clear_31 : decode cX8_clear 31 = .ok (.invokevirtual 81, 3) := by decide +kernel
theorem dX8_clear_34 : decode cX8_clear 34 = .ok (.aload_n 0, 1) := by decide +kernel
theorem dX8_clear_35 : decode cX8_clear 35 = .ok (.iload_n 1, 1) := by decide +kernel
theorem dX8_clear_36 : decode cX8_clear 36 = .ok (.iconst 2, 1) := by decide +kernel
theorem dX8_clear_37 : decode cX8_clear 37 = .ok (.iconst 0, 1) := by decide +kernel
theorem dX8_clear_38 : decode cX8_clear 38 = .ok (.invokevirtual 81, 3) := by decide +kernel
theorem dX8_clear_41 : decode cX8_clear 41 = .ok (.iload_n 2, 1) := by decide +kernel
theorem dX8_clear_42 : decode cX8_clear 42 = .ok (.ireturn, 1) := by decide +kernel
theorem dX8_set_0 : decode cX8_set 0 = .ok (.iload_n 1, 1) := by decide +kernel
theorem dX8_set_1 : decode cX8_set 1 = .ok (.iconst 0, 1) := by decide +kernel
theorem dX8_set_2 : decode cX8_set 2 = .ok (.iconst 1, 1) := by decide +kernel
theorem dX8_set_3 : decode cX8_set 3 = .ok (.invokestatic 45, 3) := by decide +kernel
theorem dX8_set_6 : decode cX8_set 6 = .ok (.ifCond .eq 22, 3) := by decide +kernel
theorem dX8_set_9 : decode cX8_set 9 = .ok (.iload_n 2, 1) := by decide +kernel
theorem dX8_set_10 : decode cX8_set 10 = .ok (.iconst 1, 1) := by decide +kernel
theorem dX8_set_11 : decode cX8_set 11 = .ok (.iload_n 1, 1) := by decide +kernel
theorem dX8_set_12 : decode cX8_set 12 = .ok (.ifCond .ne 8, 3) := by decide +kernel
theorem dX8_set_15 : decode cX8_set 15 = .ok (.bipush 60, 2) := by decide +kernel
theorem dX8_set_17 : decode cX8_set 17 = .ok (.goto 5, 3) := by decide +kernel
theorem dX8_set_20 : decode cX8_set 20 = .ok (.bipush 20, 2) := by decide +kernel
theorem dX8_set_22 : decode cX8_set 22 = .ok (.invokestatic 45, 3) := by decide +kernel
theorem dX8_set_25 : decode cX8_set 25 = .ok (.ifCond .ne 6, 3) := by decide +kernel
theorem dX8_set_28 : decode cX8_set 28 = .ok (.ldc 101, 2) := by decide +kernel
theorem dX8_set_30 : decode cX8_set 30 = .ok (.ireturn, 1) := by decide +kernel
theorem dX8_set_31 : decode cX8_set 31 = .ok (.aload_n 0, 1) := by decide +kernel
theorem dX8_set_32 : decode cX8_set 32 = .ok (.invokevirtual 107, 3) := by decide +kernel
theorem dX8_set_35 : decode cX8_set 35 = .ok (.aload_n 0, 1) := by decide +kernel
theorem dX8_set_36 : decode cX8_set 36 = .ok (.getfield 7, 3) := by decide +kernel
theorem dX8_set_39 : decode cX8_set 39 = .ok (.iload_n 1, 1) := by decide +kernel
theorem dX8_set_40 : decode cX8_set 40 = .ok (.iaload, 1) := by decide +kernel
theorem dX8_set_41 : decode cX8_set 41 = .ok (.istore_n 3, 1) := by decide +kernel
theorem dX8_set_42 : decode cX8_set 42 = .ok (.aload_n 0, 1) := by decide +kernel
theorem dX8_set_43 : decode cX8_set 43 = .ok (.getfield 7, 3) := by decide +kernel
theorem dX8_set_46 : decode cX8_set 46 = .ok (.iload_n 1, 1) := by decide +kernel
theorem dX8_set_47 : decode cX8_set 47 = .ok (.iload_n 2, 1) := by decide +kernel
theorem dX8_set_48 : decode cX8_set 48 = .ok (.iastore, 1) := by decide +kernel
theorem dX8_set_49 : decode cX8_set 49 = .ok (.iload_n 3, 1) := by decide +kernel
theorem dX8_set_50 : decode cX8_set 50 = .ok (.ireturn, 1) := by decide +kernel
theorem dX8_floatBits_0 : decode cX8_floatBits 0 = .ok (.iload_n 0, 1) := by decide +kernel
theorem dX8_floatBits_1 : decode cX8_floatBits 1 = .ok (.ifCond .ne 5, 3) := by decide +kernel
theorem dX8_floatBits_4 : decode cX8_floatBits 4 = .ok (.iconst 0, 1) := by decide +kernel
theorem dX8_floatBits_5 : decode cX8_floatBits 5 = .ok (.ireturn, 1) := by decide +kernel
theorem dX8_floatBits_6 : decode cX8_floatBits 6 = .ok (.iload_n 0, 1) := by decide +kernel
theorem dX8_floatBits_7 : decode cX8_floatBits 7 = .ok (.i2l, 1) := by decide +kernel
theorem dX8_floatBits_8 : decode cX8_floatBits 8 = .ok (.lstore_n 2, 1) := by decide +kernel
theorem dX8_floatBits_9 : decode cX8_floatBits 9 = .ok (.iload_n 1, 1) := by decide +kernel
theorem dX8_floatBits_10 : decode cX8_floatBits 10 = .ok (.i2l, 1) := by decide +kernel
theorem dX8_floatBits_11 : decode cX8_floatBits 11 = .ok (.lstore 4, 2) := by decide +kernel
theorem dX8_floatBits_13 : decode cX8_floatBits 13 = .ok (.bipush 127, 2) := by decide +kernel
theorem dX8_floatBits_15 : decode cX8_floatBits 15 = .ok (.istore 6, 2) := by decide +kernel
theorem dX8_floatBits_17 : decode cX8_floatBits 17 = .ok (.lload_n 2, 1) := by decide +kernel
theorem dX8_floatBits_18 : decode cX8_floatBits 18 = .ok (.ldc2_w 113, 3) := by decide +kernel
theorem dX8_floatBits_21 : decode cX8_floatBits 21 = .ok (.lload 4, 2) := by decide +kernel
theorem dX8_floatBits_23 : decode cX8_floatBits 23 = .ok (.lmul, 1) := by decide +kernel
theorem dX8_floatBits_24 : decode cX8_floatBits 24 = .ok (.lcmp, 1) := by decide +kernel
theorem dX8_floatBits_25 : decode cX8_floatBits 25 = .ok (.ifCond .lt 17, 3) := by decide +kernel
theorem dX8_floatBits_28 : decode cX8_floatBits 28 = .ok (.lload 4, 2) := by decide +kernel
theorem dX8_floatBits_30 : decode cX8_floatBits 30 = .ok (.ldc2_w 113, 3) := by decide +kernel
theorem dX8_floatBits_33 : decode cX8_floatBits 33 = .ok (.lmul, 1) := by decide +kernel
theorem dX8_floatBits_34 : decode cX8_floatBits 34 = .ok (.lstore 4, 2) := by decide +kernel
theorem dX8_floatBits_36 : decode cX8_floatBits 36 = .ok (.iinc 6 1, 3) := by decide +kernel
theorem dX8_floatBits_39 : decode cX8_floatBits 39 = .ok (.goto (-22), 3) := by decide +kernel
theorem dX8_floatBits_42 : decode cX8_floatBits 42 = .ok (.lload_n 2, 1) := by decide +kernel
theorem dX8_floatBits_43 : decode cX8_floatBits 43 = .ok (.lload 4, 2) := by decide +kernel
theorem dX8_floatBits_45 : decode cX8_floatBits 45 = .ok (.lcmp, 1) := by decide +kernel
theorem dX8_floatBits_46 : decode cX8_floatBits 46 = .ok (.ifCond .ge 15, 3) := by decide +kernel
theorem dX8_floatBits_49 : decode cX8_floatBits 49 = .ok (.lload_n 2, 1) := by decide +kernel
theorem dX8_floatBits_50 : decode cX8_floatBits 50 = .ok (.ldc2_w 113, 3) := by decide +kernel
theorem dX8_floatBits_53 : decode cX8_floatBits 53 = .ok (.lmul, 1) := by decide +kernel
theorem dX8_floatBits_54 : decode cX8_floatBits 54 = .ok (.lstore_n 2, 1) := by decide +kernel
theorem dX8_floatBits_55 : decode cX8_floatBits 55 = .ok (.iinc 6 (-1), 3) := by decide +kernel
theorem dX8_floatBits_58 : decode cX8_floatBits 58 = .ok (.goto (-16), 3) := by decide +kernel
theorem dX8_floatBits_61 : decode cX8_floatBits 61 = .ok (.iconst 0, 1) := by decide +kernel
theorem dX8_floatBits_62 : decode cX8_floatBits 62 = .ok (.istore 7, 2) := by decide +kernel
theorem dX8_floatBits_64 : decode cX8_floatBits 64 = .ok (.iconst 0, 1) := by decide +kernel
theorem dX8_floatBits_65 : decode cX8_floatBits 65 = .ok (.istore 8, 2) := by decide +kernel
theorem dX8_floatBits_67 : decode cX8_floatBits 67 = .ok (.iload 8, 2) := by decide +kernel
theorem dX8_floatBits_69 : decode cX8_floatBits 69 = .ok (.bipush 24, 2) := by decide +kernel
theorem dX8_floatBits_71 : decode cX8_floatBits 71 = .ok (.if_icmp .ge 48, 3) := by decide +kernel
theorem dX8_floatBits_74 : decode cX8_floatBits 74 = .ok (.iconst 2, 1) := by decide +kernel
theorem dX8_floatBits_75 : decode cX8_floatBits 75 = .ok (.iload 7, 2) := by decide +kernel
theorem dX8_floatBits_77 : decode cX8_floatBits 77 = .ok (.imul, 1) := by decide +kernel
theorem dX8_floatBits_78 : decode cX8_floatBits 78 = .ok (.lload_n 2, 1) := by decide +kernel
theorem dX8_floatBits_79 : decode cX8_floatBits 79 = .ok (.lload 4, 2) := by decide +kernel
theorem dX8_floatBits_81 : decode cX8_floatBits 81 = .ok (.lcmp, 1) := by decide +kernel
theorem dX8_floatBits_82 : decode cX8_floatBits 82 = .ok (.ifCond .lt 7, 3) := by decide +kernel
theorem dX8_floatBits_85 : decode cX8_floatBits 85 = .ok (.iconst 1, 1) := by decide +kernel
theorem dX8_floatBits_86 : decode cX8_floatBits 86 = .ok (.goto 4, 3) := by decide +kernel
theorem dX8_floatBits_89 : decode cX8_floatBits 89 = .ok (.iconst 0, 1) := by decide +kernel
theorem dX8_floatBits_90 : decode cX8_floatBits 90 = .ok (.iadd, 1) := by decide +kernel
theorem dX8_floatBits_91 : decode cX8_floatBits 91 = .ok (.istore 7, 2) := by decide +kernel
theorem dX8_floatBits_93 : decode cX8_floatBits 93 = .ok (.ldc2_w 113, 3) := by decide +kernel
theorem dX8_floatBits_96 : decode cX8_floatBits 96 = .ok (.lload_n 2, 1) := by decide +kernel
theorem dX8_floatBits_97 : decode cX8_floatBits 97 = .ok (.lload 4, 2) := by decide +kernel
theorem dX8_floatBits_99 : decode cX8_floatBits 99 = .ok (.lcmp, 1) := by decide +kernel
theorem dX8_floatBits_100 : decode cX8_floatBits 100 = .ok (.ifCond .lt 10, 3) := by decide +kernel
theorem dX8_floatBits_103 : decode cX8_floatBits 103 = .ok (.lload_n 2, 1) := by decide +kernel
theorem dX8_floatBits_104 : decode cX8_floatBits 104 = .ok (.lload 4, 2) := by decide +kernel
theorem dX8_floatBits_106 : decode cX8_floatBits 106 = .ok (.lsub, 1) := by decide +kernel
theorem dX8_floatBits_107 : decode cX8_floatBits 107 = .ok (.goto 4, 3) := by decide +kernel
theorem dX8_floatBits_110 : decode cX8_floatBits 110 = .ok (.lload_n 2, 1) := by decide +kernel
theorem dX8_floatBits_111 : decode cX8_floatBits 111 = .ok (.lmul, 1) := by decide +kernel
theorem dX8_floatBits_112 : decode cX8_floatBits 112 = .ok (.lstore_n 2, 1) := by decide +kernel
theorem dX8_floatBits_113 : decode cX8_floatBits 113 = .ok (.iinc 8 1, 3) := by decide +kernel
theorem dX8_floatBits_116 : decode cX8_floatBits 116 = .ok (.goto (-49), 3) := by decide +kernel
theorem dX8_floatBits_119 : decode cX8_floatBits 119 = .ok (.iload 7, 2) := by decide +kernel
theorem dX8_floatBits_121 : decode cX8_floatBits 121 = .ok (.lload_n 2, 1) := by decide +kernel
theorem dX8_floatBits_122 : decode cX8_floatBits 122 = .ok (.lload 4, 2) := by decide +kernel
theorem dX8_floatBits_124 : decode cX8_floatBits 124 = .ok (.lcmp, 1) := by decide +kernel
theorem dX8_floatBits_125 : decode cX8_floatBits 125 = .ok (.ifCond .gt 18, 3) := by decide +kernel
theorem dX8_floatBits_128 : decode cX8_floatBits 128 = .ok (.lload_n 2, 1) := by decide +kernel
theorem dX8_floatBits_129 : decode cX8_floatBits 129 = .ok (.lload 4, 2) := by decide +kernel
theorem dX8_floatBits_131 : decode cX8_floatBits 131 = .ok (.lcmp, 1) := by decide +kernel
theorem dX8_floatBits_132 : decode cX8_floatBits 132 = .ok (.ifCond .ne 15, 3) := by decide +kernel
theorem dX8_floatBits_135 : decode cX8_floatBits 135 = .ok (.iload 7, 2) := by decide +kernel
theorem dX8_floatBits_137 : decode cX8_floatBits 137 = .ok (.iconst 2, 1) := by decide +kernel
theorem dX8_floatBits_138 : decode cX8_floatBits 138 = .ok (.irem, 1) := by decide +kernel
theorem dX8_floatBits_139 : decode cX8_floatBits 139 = .ok (.iconst 1, 1) := by decide +kernel
theorem dX8_floatBits_140 : decode cX8_floatBits 140 = .ok (.if_icmp .ne 7, 3) := by decide +kernel
theorem dX8_floatBits_143 : decode cX8_floatBits 143 = .ok (.iconst 1, 1) := by decide +kernel
theorem dX8_floatBits_144 : decode cX8_floatBits 144 = .ok (.goto 4, 3) := by decide +kernel
theorem dX8_floatBits_147 : decode cX8_floatBits 147 = .ok (.iconst 0, 1) := by decide +kernel
theorem dX8_floatBits_148 : decode cX8_floatBits 148 = .ok (.iadd, 1) := by decide +kernel
theorem dX8_floatBits_149 : decode cX8_floatBits 149 = .ok (.istore 7, 2) := by decide +kernel
theorem dX8_floatBits_151 : decode cX8_floatBits 151 = .ok (.iload 6, 2) := by decide +kernel
theorem dX8_floatBits_153 : decode cX8_floatBits 153 = .ok (.bipush 23, 2) := by decide +kernel
theorem dX8_floatBits_155 : decode cX8_floatBits 155 = .ok (.ishl, 1) := by decide +kernel
theorem dX8_floatBits_156 : decode cX8_floatBits 156 = .ok (.iload 7, 2) := by decide +kernel
theorem dX8_floatBits_158 : decode cX8_floatBits 158 = .ok (.ldc 115, 2) := by decide +kernel
theorem dX8_floatBits_160 : decode cX8_floatBits 160 = .ok (.isub, 1) := by decide +kernel
theorem dX8_floatBits_161 : decode cX8_floatBits 161 = .ok (.iadd, 1) := by decide +kernel
theorem dX8_floatBits_162 : decode cX8_floatBits 162 = .ok (.ireturn, 1) := by decide +kernel
theorem dX8_aheadOf_0 : decode cX8_aheadOf 0 = .ok (.iconst 0, 1) := by decide +kernel
theorem dX8_aheadOf_1 : decode cX8_aheadOf 1 = .ok (.istore_n 3, 1) := by decide +kernel
theorem dX8_aheadOf_2 : decode cX8_aheadOf 2 = .ok (.iconst 0, 1) := by decide +kernel
theorem dX8_aheadOf_3 : decode cX8_aheadOf 3 = .ok (.istore 4, 2) := by decide +kernel
theorem dX8_aheadOf_5 : decode cX8_aheadOf 5 = .ok (.iload 4, 2) := by decide +kernel
theorem dX8_aheadOf_7 : decode cX8_aheadOf 7 = .ok (.iload_n 2, 1) := by decide +kernel
theorem dX8_aheadOf_8 : decode cX8_aheadOf 8 = .ok (.if_icmp .ge 20, 3) := by decide +kernel
theorem dX8_aheadOf_11 : decode cX8_aheadOf 11 = .ok (.iload_n 3, 1) := by decide +kernel
theorem dX8_aheadOf_12 : decode cX8_aheadOf 12 = .ok (.aload_n 0, 1) := by decide +kernel
theorem dX8_aheadOf_13 : decode cX8_aheadOf 13 = .ok (.iload_n 1, 1) := by decide +kernel
theorem dX8_aheadOf_14 : decode cX8_aheadOf 14 = .ok (.iload 4, 2) := by decide +kernel
theorem dX8_aheadOf_16 : decode cX8_aheadOf 16 = .ok (.iconst 0, 1) := by decide +kernel
theorem dX8_aheadOf_17 : decode cX8_aheadOf 17 = .ok (.invokevirtual 56, 3) := by decide +kernel
theorem dX8_aheadOf_20 : decode cX8_aheadOf 20 = .ok (.iadd, 1) := by decide +kernel
theorem dX8_aheadOf_21 : decode cX8_aheadOf 21 = .ok (.istore_n 3, 1) := by decide +kernel
theorem dX8_aheadOf_22 : decode cX8_aheadOf 22 = .ok (.iinc 4 1, 3) := by decide +kernel
theorem dX8_aheadOf_25 : decode cX8_aheadOf 25 = .ok (.goto (-20), 3) := by decide +kernel
theorem dX8_aheadOf_28 : decode cX8_aheadOf 28 = .ok (.iload_n 3, 1) := by decide +kernel
theorem dX8_aheadOf_29 : decode cX8_aheadOf 29 = .ok (.ireturn, 1) := by decide +kernel
theorem dX8_heapOf_0 : decode cX8_heapOf 0 = .ok (.iload_n 1, 1) := by decide +kernel
theorem dX8_heapOf_1 : decode cX8_heapOf 1 = .ok (.invokestatic 97, 3) := by decide +kernel
theorem dX8_heapOf_4 : decode cX8_heapOf 4 = .ok (.ifCond .eq 17, 3) := by decide +kernel
theorem dX8_heapOf_7 : decode cX8_heapOf 7 = .ok (.iload_n 2, 1) := by decide +kernel
theorem dX8_heapOf_8 : decode cX8_heapOf 8 = .ok (.ifCond .lt 13, 3) := by decide +kernel
theorem dX8_heapOf_11 : decode cX8_heapOf 11 = .ok (.iload_n 3, 1) := by decide +kernel
theorem dX8_heapOf_12 : decode cX8_heapOf 12 = .ok (.iconst 0, 1) := by decide +kernel
theorem dX8_heapOf_13 : decode cX8_heapOf 13 = .ok (.bipush 6, 2) := by decide +kernel
theorem dX8_heapOf_15 : decode cX8_heapOf 15 = .ok (.invokestatic 45, 3) := by decide +kernel
theorem dX8_heapOf_18 : decode cX8_heapOf 18 = .ok (.ifCond .ne 6, 3) := by decide +kernel
theorem dX8_heapOf_21 : decode cX8_heapOf 21 = .ok (.ldc 101, 2) := by decide +kernel
theorem dX8_heapOf_23 : decode cX8_heapOf 23 = .ok (.ireturn, 1) := by decide +kernel
theorem dX8_heapOf_24 : decode cX8_heapOf 24 = .ok (.iload_n 2, 1) := by decide +kernel
theorem dX8_heapOf_25 : decode cX8_heapOf 25 = .ok (.aload_n 0, 1) := by decide +kernel
theorem dX8_heapOf_26 : decode cX8_heapOf 26 = .ok (.iload_n 1, 1) := by decide +kernel
theorem dX8_heapOf_27 : decode cX8_heapOf 27 = .ok (.iconst 0, 1) := by decide +kernel
theorem dX8_heapOf_28 : decode cX8_heapOf 28 = .ok (.invokevirtual 49, 3) := by decide +kernel
theorem dX8_heapOf_31 : decode cX8_heapOf 31 = .ok (.if_icmp .lt 6, 3) := by decide +kernel
theorem dX8_heapOf_34 : decode cX8_heapOf 34 = .ok (.ldc 116, 2) := by decide +kernel
theorem dX8_heapOf_36 : decode cX8_heapOf 36 = .ok (.ireturn, 1) := by decide +kernel
theorem dX8_heapOf_37 : decode cX8_heapOf 37 = .ok (.aload_n 0, 1) := by decide +kernel
theorem dX8_heapOf_38 : decode cX8_heapOf 38 = .ok (.iload_n 1, 1) := by decide +kernel
theorem dX8_heapOf_39 : decode cX8_heapOf 39 = .ok (.iload_n 2, 1) := by decide +kernel
theorem dX8_heapOf_40 : decode cX8_heapOf 40 = .ok (.iconst 0, 1) := by decide +kernel
theorem dX8_heapOf_41 : decode cX8_heapOf 41 = .ok (.invokevirtual 56, 3) := by decide +kernel
theorem dX8_heapOf_44 : decode cX8_heapOf 44 = .ok (.istore 4, 2) := by decide +kernel
theorem dX8_heapOf_46 : decode cX8_heapOf 46 = .ok (.aload_n 0, 1) := by decide +kernel
theorem dX8_heapOf_47 : decode cX8_heapOf 47 = .ok (.iload_n 1, 1) := by decide +kernel
theorem dX8_heapOf_48 : decode cX8_heapOf 48 = .ok (.iload_n 2, 1) := by decide +kernel
theorem dX8_heapOf_49 : decode cX8_heapOf 49 = .ok (.iconst 1, 1) := by decide +kernel
theorem dX8_heapOf_50 : decode cX8_heapOf 50 = .ok (.invokevirtual 56, 3) := by decide +kernel
theorem dX8_heapOf_53 : decode cX8_heapOf 53 = .ok (.istore 5, 2) := by decide +kernel
theorem dX8_heapOf_55 : decode cX8_heapOf 55 = .ok (.iload_n 3, 1) := by decide +kernel
theorem dX8_heapOf_56 : decode cX8_heapOf 56 = .ok (.iconst 4, 1) := by decide +kernel
theorem dX8_heapOf_57 : decode cX8_heapOf 57 = .ok (.if_icmp .ge 13, 3) := by decide +kernel
theorem dX8_heapOf_60 : decode cX8_heapOf 60 = .ok (.aload_n 0, 1) := by decide +kernel
theorem dX8_heapOf_61 : decode cX8_heapOf 61 = .ok (.iload_n 1, 1) := by decide +kernel
theorem dX8_heapOf_62 : decode cX8_heapOf 62 = .ok (.iload_n 2, 1) := by decide +kernel
theorem dX8_heapOf_63 : decode cX8_heapOf 63 = .ok (.iload_n 3, 1) := by decide +kernel
theorem dX8_heapOf_64 : decode cX8_heapOf 64 = .ok (.invokevirtual 56, 3) := by decide +kernel
theorem dX8_heapOf_67 : decode cX8_heapOf 67 = .ok (.goto 37, 3) := by decide +kernel
theorem dX8_heapOf_70 : decode cX8_heapOf 70 = .ok (.iload_n 3, 1) := by decide +kernel
theorem dX8_heapOf_71 : decode cX8_heapOf 71 = .ok (.iconst 4, 1) := by decide +kernel
theorem dX8_heapOf_72 : decode cX8_heapOf 72 = .ok (.if_icmp .ne 11, 3) := by decide +kernel
theorem dX8_heapOf_75 : decode cX8_heapOf 75 = .ok (.iload 5, 2) := by decide +kernel
theorem dX8_heapOf_77 : decode cX8_heapOf 77 = .ok (.iload 4, 2) := by decide +kernel
theorem dX8_heapOf_79 : decode cX8_heapOf 79 = .ok (.idiv, 1) := by decide +kernel
theorem dX8_heapOf_80 : decode cX8_heapOf 80 = .ok (.goto 24, 3) := by decide +kernel
theorem dX8_heapOf_83 : decode cX8_heapOf 83 = .ok (.iload_n 3, 1) := by decide +kernel
theorem dX8_heapOf_84 : decode cX8_heapOf 84 = .ok (.iconst 5, 1) := by decide +kernel
theorem dX8_heapOf_85 : decode cX8_heapOf 85 = .ok (.if_icmp .ne 12, 3) := by decide +kernel
theorem dX8_heapOf_88 : decode cX8_heapOf 88 = .ok (.aload_n 0, 1) := by decide +kernel
theorem dX8_heapOf_89 : decode cX8_heapOf 89 = .ok (.iload_n 1, 1) := by decide +kernel
theorem dX8_heapOf_90 : decode cX8_heapOf 90 = .ok (.iload_n 2, 1) := by decide +kernel
theorem dX8_heapOf_91 : decode cX8_heapOf 91 = .ok (.invokevirtual 117, 3) := by decide +kernel
theorem dX8_heapOf_94 : decode cX8_heapOf 94 = .ok (.goto 10, 3) := by decide +kernel
theorem dX8_heapOf_97 : decode cX8_heapOf 97 = .ok (.iload 5, 2) := by decide +kernel
theorem dX8_heapOf_99 : decode cX8_heapOf 99 = .ok (.iload 4, 2) := by decide +kernel
theorem dX8_heapOf_101 : decode cX8_heapOf 101 = .ok (.invokestatic 120, 3) := by decide +kernel
theorem dX8_heapOf_104 : decode cX8_heapOf 104 = .ok (.ireturn, 1) := by decide +kernel
theorem dX8_bufferOf_0 : decode cX8_bufferOf 0 = .ok (.iload_n 1, 1) := by decide +kernel
theorem dX8_bufferOf_1 : decode cX8_bufferOf 1 = .ok (.invokestatic 97, 3) := by decide +kernel
theorem dX8_bufferOf_4 : decode cX8_bufferOf 4 = .ok (.ifCond .eq 7, 3) := by decide +kernel
theorem dX8_bufferOf_7 : decode cX8_bufferOf 7 = .ok (.iload_n 2, 1) := by decide +kernel
theorem dX8_bufferOf_8 : decode cX8_bufferOf 8 = .ok (.ifCond .ge 6, 3) := by decide +kernel
theorem dX8_bufferOf_11 : decode cX8_bufferOf 11 = .ok (.ldc 101, 2) := by decide +kernel
theorem dX8_bufferOf_13 : decode cX8_bufferOf 13 = .ok (.ireturn, 1) := by decide +kernel
theorem dX8_bufferOf_14 : decode cX8_bufferOf 14 = .ok (.iload_n 2, 1) := by decide +kernel
theorem dX8_bufferOf_15 : decode cX8_bufferOf 15 = .ok (.aload_n 0, 1) := by decide +kernel
theorem dX8_bufferOf_16 : decode cX8_bufferOf 16 = .ok (.iload_n 1, 1) := by decide +kernel
theorem dX8_bufferOf_17 : decode cX8_bufferOf 17 = .ok (.iconst 1, 1) := by decide +kernel
theorem dX8_bufferOf_18 : decode cX8_bufferOf 18 = .ok (.invokevirtual 49, 3) := by decide +kernel
theorem dX8_bufferOf_21 : decode cX8_bufferOf 21 = .ok (.if_icmp .ge 16, 3) := by decide +kernel
theorem dX8_bufferOf_24 : decode cX8_bufferOf 24 = .ok (.aload_n 0, 1) := by decide +kernel
theorem dX8_bufferOf_25 : decode cX8_bufferOf 25 = .ok (.iload_n 1, 1) := by decide +kernel
theorem dX8_bufferOf_26 : decode cX8_bufferOf 26 = .ok (.sipush 804, 3) := by decide +kernel
theorem dX8_bufferOf_29 : decode cX8_bufferOf 29 = .ok (.iload_n 2, 1) := by decide +kernel
theorem dX8_bufferOf_30 : decode cX8_bufferOf 30 = .ok (.iadd, 1) := by decide +kernel
theorem dX8_bufferOf_31 : decode cX8_bufferOf 31 = .ok (.invokevirtual 49, 3) := by decide +kernel
theorem dX8_bufferOf_34 : decode cX8_bufferOf 34 = .ok (.goto 5, 3) := by decide +kernel
theorem dX8_bufferOf_37 : decode cX8_bufferOf 37 = .ok (.ldc 116, 2) := by decide +kernel
theorem dX8_bufferOf_39 : decode cX8_bufferOf 39 = .ok (.ireturn, 1) := by decide +kernel
theorem dX8_putValuesInOrder_0 : decode cX8_putValuesInOrder 0 = .ok (.iconst 0, 1) := by decide +kernel
theorem dX8_putValuesInOrder_1 : decode cX8_putValuesInOrder 1 = .ok (.istore_n 2, 1) := by decide +kernel
theorem dX8_putValuesInOrder_2 : decode cX8_putValuesInOrder 2 = .ok (.iload_n 2, 1) := by decide +kernel
theorem dX8_putValuesInOrder_3 : decode cX8_putValuesInOrder 3 = .ok (.aload_n 0, 1) := by decide +kernel
theorem dX8_putValuesInOrder_4 : decode cX8_putValuesInOrder 4 = .ok (.iload_n 1, 1) := by decide +kernel
theorem dX8_putValuesInOrder_5 : decode cX8_putValuesInOrder 5 = .ok (.iconst 2, 1) := by decide +kernel
theorem dX8_putValuesInOrder_6 : decode cX8_putValuesInOrder 6 = .ok (.invokevirtual 49, 3) := by decide +kernel
theorem dX8_putValuesInOrder_9 : decode cX8_putValuesInOrder 9 = .ok (.if_icmp .ge 71, 3) := by decide +kernel
theorem dX8_putValuesInOrder_12 : decode cX8_putValuesInOrder 12 = .ok (.aload_n 0, 1) := by decide +kernel
theorem dX8_putValuesInOrder_13 : decode cX8_putValuesInOrder 13 = .ok (.iload_n 1, 1) := by decide +kernel
theorem dX8_putValuesInOrder_14 : decode cX8_putValuesInOrder 14 = .ok (.sipush 824, 3) := by decide +kernel
theorem dX8_putValuesInOrder_17 : decode cX8_putValuesInOrder 17 = .ok (.iload_n 2, 1) := by decide +kernel
theorem dX8_putValuesInOrder_18 : decode cX8_putValuesInOrder 18 = .ok (.iadd, 1) := by decide +kernel
theorem dX8_putValuesInOrder_19 : decode cX8_putValuesInOrder 19 = .ok (.invokevirtual 49, 3) := by decide +kernel
theorem dX8_putValuesInOrder_22 : decode cX8_putValuesInOrder 22 = .ok (.istore_n 3, 1) := by decide +kernel
theorem dX8_putValuesInOrder_23 : decode cX8_putValuesInOrder 23 = .ok (.iload_n 2, 1) := by decide +kernel
theorem dX8_putValuesInOrder_24 : decode cX8_putValuesInOrder 24 = .ok (.istore 4, 2) := by decide +kernel
theorem dX8_putValuesInOrder_26 : decode cX8_putValuesInOrder 26 = .ok (.iload 4, 2) := by decide +kernel
theorem dX8_putValuesInOrder_28 : decode cX8_putValuesInOrder 28 = .ok (.ifCond .le 38, 3) := by decide +kernel
theorem dX8_putValuesInOrder_31 : decode cX8_putValuesInOrder 31 = .ok (.aload_n 0, 1) := by decide +kernel
theorem dX8_putValuesInOrder_32 : decode cX8_putValuesInOrder 32 = .ok (.getfield 31, 3) := by decide +kernel
theorem dX8_putValuesInOrder_35 : decode cX8_putValuesInOrder 35 = .ok (.iload 4, 2) := by decide +kernel
theorem dX8_putValuesInOrder_37 : decode cX8_putValuesInOrder 37 = .ok (.iconst 1, 1) := by decide +kernel
theorem dX8_putValuesInOrder_38 : decode cX8_putValuesInOrder 38 = .ok (.isub, 1) := by decide +kernel
theorem dX8_putValuesInOrder_39 : decode cX8_putValuesInOrder 39 = .ok (.iaload, 1) := by decide +kernel
theorem dX8_putValuesInOrder_40 : decode cX8_putValuesInOrder 40 = .ok (.iload_n 3, 1) := by decide +kernel
theorem dX8_putValuesInOrder_41 : decode cX8_putValuesInOrder 41 = .ok (.if_icmp .le 25, 3) := by decide +kernel
theorem dX8_putValuesInOrder_44 : decode cX8_putValuesInOrder 44 = .ok (.aload_n 0, 1) := by decide +kernel
theorem dX8_putValuesInOrder_45 : decode cX8_putValuesInOrder 45 = .ok (.getfield 31, 3) := by decide +kernel
theorem dX8_putValuesInOrder_48 : decode cX8_putValuesInOrder 48 = .ok (.iload 4, 2) := by decide +kernel
theorem dX8_putValuesInOrder_50 : decode cX8_putValuesInOrder 50 = .ok (.aload_n 0, 1) := by decide +kernel
theorem dX8_putValuesInOrder_51 : decode cX8_putValuesInOrder 51 = .ok (.getfield 31, 3) := by decide +kernel
theorem dX8_putValuesInOrder_54 : decode cX8_putValuesInOrder 54 = .ok (.iload 4, 2) := by decide +kernel
theorem dX8_putValuesInOrder_56 : decode cX8_putValuesInOrder 56 = .ok (.iconst 1, 1) := by decide +kernel
theorem dX8_putValuesInOrder_57 : decode cX8_putValuesInOrder 57 = .ok (.isub, 1) := by decide +kernel
theorem dX8_putValuesInOrder_58 : decode cX8_putValuesInOrder 58 = .ok (.iaload, 1) := by decide +kernel
theorem dX8_putValuesInOrder_59 : decode cX8_putValuesInOrder 59 = .ok (.iastore, 1) := by decide +kernel
theorem dX8_putValuesInOrder_60 : decode cX8_putValuesInOrder 60 = .ok (.iinc 4 (-1), 3) := by decide +kernel
theorem dX8_putValuesInOrder_63 : decode cX8_putValuesInOrder 63 = .ok (.goto (-37), 3) := by decide +kernel
theorem dX8_putValuesInOrder_66 : decode cX8_putValuesInOrder 66 = .ok (.aload_n 0, 1) := by decide +kernel
theorem dX8_putValuesInOrder_67 : decode cX8_putValuesInOrder 67 = .ok (.getfield 31, 3) := by decide +kernel
theorem dX8_putValuesInOrder_70 : decode cX8_putValuesInOrder 70 = .ok (.iload 4, 2) := by decide +kernel
theorem dX8_putValuesInOrder_72 : decode cX8_putValuesInOrder 72 = .ok (.iload_n 3, 1) := by decide +kernel
theorem dX8_putValuesInOrder_73 : decode cX8_putValuesInOrder 73 = .ok (.iastore, 1) := by decide +kernel
theorem dX8_putValuesInOrder_74 : decode cX8_putValuesInOrder 74 = .ok (.iinc 2 1, 3) := by decide +kernel
theorem dX8_putValuesInOrder_77 : decode cX8_putValuesInOrder 77 = .ok (.goto (-75), 3) := by decide +kernel
theorem dX8_putValuesInOrder_80 : decode cX8_putValuesInOrder 80 = .ok (.return_, 1) := by decide +kernel
theorem dX8_sumOf_0 : decode cX8_sumOf 0 = .ok (.iconst 0, 1) := by decide +kernel
theorem dX8_sumOf_1 : decode cX8_sumOf 1 = .ok (.istore_n 2, 1) := by decide +kernel
theorem dX8_sumOf_2 : decode cX8_sumOf 2 = .ok (.iconst 0, 1) := by decide +kernel
theorem dX8_sumOf_3 : decode cX8_sumOf 3 = .ok (.istore_n 3, 1) := by decide +kernel
theorem dX8_sumOf_4 : decode cX8_sumOf 4 = .ok (.iload_n 3, 1) := by decide +kernel
theorem dX8_sumOf_5 : decode cX8_sumOf 5 = .ok (.aload_n 0, 1) := by decide +kernel
theorem dX8_sumOf_6 : decode cX8_sumOf 6 = .ok (.iload_n 1, 1) := by decide +kernel
theorem dX8_sumOf_7 : decode cX8_sumOf 7 = .ok (.iconst 2, 1) := by decide +kernel
theorem dX8_sumOf_8 : decode cX8_sumOf 8 = .ok (.invokevirtual 49, 3) := by decide +kernel
theorem dX8_sumOf_11 : decode cX8_sumOf 11 = .ok (.if_icmp .ge 22, 3) := by decide +kernel
theorem dX8_sumOf_14 : decode cX8_sumOf 14 = .ok (.iload_n 2, 1) := by decide +kernel
theorem dX8_sumOf_15 : decode cX8_sumOf 15 = .ok (.aload_n 0, 1) := by decide +kernel
theorem dX8_sumOf_16 : decode cX8_sumOf 16 = .ok (.iload_n 1, 1) := by decide +kernel
theorem dX8_sumOf_17 : decode cX8_sumOf 17 = .ok (.sipush 824, 3) := by decide +kernel
theorem dX8_sumOf_20 : decode cX8_sumOf 20 = .ok (.iload_n 3, 1) := by decide +kernel
theorem dX8_sumOf_21 : decode cX8_sumOf 21 = .ok (.iadd, 1) := by decide +kernel
theorem dX8_sumOf_22 : decode cX8_sumOf 22 = .ok (.invokevirtual 49, 3) := by decide +kernel
theorem dX8_sumOf_25 : decode cX8_sumOf 25 = .ok (.iadd, 1) := by decide +kernel
theorem dX8_sumOf_26 : decode cX8_sumOf 26 = .ok (.istore_n 2, 1) := by decide +kernel
theorem dX8_sumOf_27 : decode cX8_sumOf 27 = .ok (.iinc 3 1, 3) := by decide +kernel
theorem dX8_sumOf_30 : decode cX8_sumOf 30 = .ok (.goto (-26), 3) := by decide +kernel
theorem dX8_sumOf_33 : decode cX8_sumOf 33 = .ok (.iload_n 2, 1) := by decide +kernel
theorem dX8_sumOf_34 : decode cX8_sumOf 34 = .ok (.ireturn, 1) := by decide +kernel
theorem dX8_greatestWeight_0 : decode cX8_greatestWeight 0 = .ok (.ldc 116, 2) := by decide +kernel
theorem dX8_greatestWeight_2 : decode cX8_greatestWeight 2 = .ok (.istore_n 2, 1) := by decide +kernel
theorem dX8_greatestWeight_3 : decode cX8_greatestWeight 3 = .ok (.iconst 0, 1) := by decide +kernel
theorem dX8_greatestWeight_4 : decode cX8_greatestWeight 4 = .ok (.istore_n 3, 1) := by decide +kernel
theorem dX8_greatestWeight_5 : decode cX8_greatestWeight 5 = .ok (.iload_n 3, 1) := by decide +kernel
theorem dX8_greatestWeight_6 : decode cX8_greatestWeight 6 = .ok (.aload_n 0, 1) := by decide +kernel
theorem dX8_greatestWeight_7 : decode cX8_greatestWeight 7 = .ok (.iload_n 1, 1) := by decide +kernel
theorem dX8_greatestWeight_8 : decode cX8_greatestWeight 8 = .ok (.iconst 0, 1) := by decide +kernel
theorem dX8_greatestWeight_9 : decode cX8_greatestWeight 9 = .ok (.invokevirtual 49, 3) := by decide +kernel
theorem dX8_greatestWeight_12 : decode cX8_greatestWeight 12 = .ok (.if_icmp .ge 32, 3) := by decide +kernel
theorem dX8_greatestWeight_15 : decode cX8_greatestWeight 15 = .ok (.aload_n 0, 1) := by decide +kernel
theorem dX8_greatestWeight_16 : decode cX8_greatestWeight 16 = .ok (.iload_n 1, 1) := by decide +kernel
theorem dX8_greatestWeight_17 : decode cX8_greatestWeight 17 = .ok (.iload_n 3, 1) := by decide +kernel
theorem dX8_greatestWeight_18 : decode cX8_greatestWeight 18 = .ok (.iconst 0, 1) := by decide +kernel
theorem dX8_greatestWeight_19 : decode cX8_greatestWeight 19 = .ok (.invokevirtual 56, 3) := by decide +kernel
theorem dX8_greatestWeight_22 : decode cX8_greatestWeight 22 = .ok (.iload_n 2, 1) := by decide +kernel
theorem dX8_greatestWeight_23 : decode cX8_greatestWeight 23 = .ok (.if_icmp .le 13, 3) := by decide +kernel
theorem dX8_greatestWeight_26 : decode cX8_greatestWeight 26 = .ok (.aload_n 0, 1) := by decide +kernel
theorem dX8_greatestWeight_27 : decode cX8_greatestWeight 27 = .ok (.iload_n 1, 1) := by decide +kernel
theorem dX8_greatestWeight_28 : decode cX8_greatestWeight 28 = .ok (.iload_n 3, 1) := by decide +kernel
theorem dX8_greatestWeight_29 : decode cX8_greatestWeight 29 = .ok (.iconst 0, 1) := by decide +kernel
theorem dX8_greatestWeight_30 : decode cX8_greatestWeight 30 = .ok (.invokevirtual 56, 3) := by decide +kernel
theorem dX8_greatestWeight_33 : decode cX8_greatestWeight 33 = .ok (.goto 4, 3) := by decide +kernel
theorem dX8_greatestWeight_36 : decode cX8_greatestWeight 36 = .ok (.iload_n 2, 1) := by decide +kernel
theorem dX8_greatestWeight_37 : decode cX8_greatestWeight 37 = .ok (.istore_n 2, 1) := by decide +kernel
theorem dX8_greatestWeight_38 : decode cX8_greatestWeight 38 = .ok (.iinc 3 1, 3) := by decide +kernel
theorem dX8_greatestWeight_41 : decode cX8_greatestWeight 41 = .ok (.goto (-36), 3) := by decide +kernel
theorem dX8_greatestWeight_44 : decode cX8_greatestWeight 44 = .ok (.iload_n 2, 1) := by decide +kernel
theorem dX8_greatestWeight_45 : decode cX8_greatestWeight 45 = .ok (.ireturn, 1) := by decide +kernel
theorem dX8_digestOf_0 : decode cX8_digestOf 0 = .ok (.iload_n 1, 1) := by decide +kernel
theorem dX8_digestOf_1 : decode cX8_digestOf 1 = .ok (.invokestatic 97, 3) := by decide +kernel
theorem dX8_digestOf_4 : decode cX8_digestOf 4 = .ok (.ifCond .eq 13, 3) := by decide +kernel
theorem dX8_digestOf_7 : decode cX8_digestOf 7 = .ok (.iload_n 2, 1) := by decide +kernel
theorem dX8_digestOf_8 : decode cX8_digestOf 8 = .ok (.iconst 0, 1) := by decide +kernel
theorem dX8_digestOf_9 : decode cX8_digestOf 9 = .ok (.bipush 8, 2) := by decide +kernel
theorem dX8_digestOf_11 : decode cX8_digestOf 11 = .ok (.invokestatic 45, 3) := by decide +kernel
theorem dX8_digestOf_14 : decode cX8_digestOf 14 = .ok (.ifCond .ne 6, 3) := by decide +kernel
theorem dX8_digestOf_17 : decode cX8_digestOf 17 = .ok (.ldc 101, 2) := by decide +kernel
theorem dX8_digestOf_19 : decode cX8_digestOf 19 = .ok (.ireturn, 1) := by decide +kernel
theorem dX8_digestOf_20 : decode cX8_digestOf 20 = .ok (.aload_n 0, 1) := by decide +kernel
theorem dX8_digestOf_21 : decode cX8_digestOf 21 = .ok (.iload_n 1, 1) := by decide +kernel
theorem dX8_digestOf_22 : decode cX8_digestOf 22 = .ok (.invokevirtual 102, 3) := by decide +kernel
theorem dX8_digestOf_25 : decode cX8_digestOf 25 = .ok (.istore_n 3, 1) := by decide +kernel
theorem dX8_digestOf_26 : decode cX8_digestOf 26 = .ok (.aload_n 0, 1) := by decide +kernel
theorem dX8_digestOf_27 : decode cX8_digestOf 27 = .ok (.iload_n 1, 1) := by decide +kernel
theorem dX8_digestOf_28 : decode cX8_digestOf 28 = .ok (.invokevirtual 123, 3) := by decide +kernel
theorem dX8_digestOf_31 : decode cX8_digestOf 31 = .ok (.iload_n 2, 1) := by decide +kernel
theorem dX8_digestOf_32 : decode cX8_digestOf 32 = .ok (.tableswitch 120 0 7 #[48, 50, 57, 64, 80, 98, 104, 114], 48) := by decide +kernel
theorem dX8_digestOf_80 : decode cX8_digestOf 80 = .ok (.iload_n 3, 1) := by decide +kernel
theorem dX8_digestOf_81 : decode cX8_digestOf 81 = .ok (.ireturn, 1) := by decide +kernel
theorem dX8_digestOf_82 : decode cX8_digestOf 82 = .ok (.aload_n 0, 1) := by decide +kernel
theorem dX8_digestOf_83 : decode cX8_digestOf 83 = .ok (.iload_n 1, 1) := by decide +kernel
theorem dX8_digestOf_84 : decode cX8_digestOf 84 = .ok (.iconst 0, 1) := by decide +kernel
theorem dX8_digestOf_85 : decode cX8_digestOf 85 = .ok (.invokevirtual 49, 3) := by decide +kernel
theorem dX8_digestOf_88 : decode cX8_digestOf 88 = .ok (.ireturn, 1) := by decide +kernel
theorem dX8_digestOf_89 : decode cX8_digestOf 89 = .ok (.aload_n 0, 1) := by decide +kernel
theorem dX8_digestOf_90 : decode cX8_digestOf 90 = .ok (.iload_n 1, 1) := by decide +kernel
theorem dX8_digestOf_91 : decode cX8_digestOf 91 = .ok (.iconst 1, 1) := by decide +kernel
theorem dX8_digestOf_92 : decode cX8_digestOf 92 = .ok (.invokevirtual 49, 3) := by decide +kernel
theorem dX8_digestOf_95 : decode cX8_digestOf 95 = .ok (.ireturn, 1) := by decide +kernel
theorem dX8_digestOf_96 : decode cX8_digestOf 96 = .ok (.iload_n 3, 1) := by decide +kernel
theorem dX8_digestOf_97 : decode cX8_digestOf 97 = .ok (.ifCond .ne 8, 3) := by decide +kernel
end
section
theorem dX8_digestOf_100 : decode cX8_digestOf 100 = .ok (.ldc 116, 2) := by decide +kernel
theorem dX8_digestOf_102 : decode cX8_digestOf 102 = .ok (.goto 9, 3) := by decide +kernel
theorem dX8_digestOf_105 : decode cX8_digestOf 105 = .ok (.aload_n 0, 1) := by decide +kernel
theorem dX8_digestOf_106 : decode cX8_digestOf 106 = .ok (.getfield 31, 3) := by decide +kernel
theorem dX8_digestOf_109 : decode cX8_digestOf 109 = .ok (.iconst 0, 1) := by decide +kernel
theorem dX8_digestOf_110 : decode cX8_digestOf 110 = .ok (.iaload, 1) := by decide +kernel
theorem dX8_digestOf_111 : decode cX8_digestOf 111 = .ok (.ireturn, 1) := by decide +kernel
theorem dX8_digestOf_112 : decode cX8_digestOf 112 = .ok (.iload_n 3, 1) := by decide +kernel
theorem dX8_digestOf_113 : decode cX8_digestOf 113 = .ok (.ifCond .ne 8, 3) := by decide +kernel
theorem dX8_digestOf_116 : decode cX8_digestOf 116 = .ok (.ldc 116, 2) := by decide +kernel
theorem dX8_digestOf_118 : decode cX8_digestOf 118 = .ok (.goto 11, 3) := by decide +kernel
theorem dX8_digestOf_121 : decode cX8_digestOf 121 = .ok (.aload_n 0, 1) := by decide +kernel
theorem dX8_digestOf_122 : decode cX8_digestOf 122 = .ok (.getfield 31, 3) := by decide +kernel
theorem dX8_digestOf_125 : decode cX8_digestOf 125 = .ok (.iload_n 3, 1) := by decide +kernel
theorem dX8_digestOf_126 : decode cX8_digestOf 126 = .ok (.iconst 1, 1) := by decide +kernel
theorem dX8_digestOf_127 : decode cX8_digestOf 127 = .ok (.isub, 1) := by decide +kernel
theorem dX8_digestOf_128 : decode cX8_digestOf 128 = .ok (.iaload, 1) := by decide +kernel
theorem dX8_digestOf_129 : decode cX8_digestOf 129 = .ok (.ireturn, 1) := by decide +kernel
theorem dX8_digestOf_130 : decode cX8_digestOf 130 = .ok (.aload_n 0, 1) := by decide +kernel
theorem dX8_digestOf_131 : decode cX8_digestOf 131 = .ok (.iload_n 1, 1) := by decide +kernel
theorem dX8_digestOf_132 : decode cX8_digestOf 132 = .ok (.invokevirtual 126, 3) := by decide +kernel
theorem dX8_digestOf_135 : decode cX8_digestOf 135 = .ok (.ireturn, 1) := by decide +kernel
theorem dX8_digestOf_136 : decode cX8_digestOf 136 = .ok (.aload_n 0, 1) := by decide +kernel
theorem dX8_digestOf_137 : decode cX8_digestOf 137 = .ok (.iload_n 1, 1) := by decide +kernel
theorem dX8_digestOf_138 : decode cX8_digestOf 138 = .ok (.invokevirtual 85, 3) := by decide +kernel
theorem dX8_digestOf_141 : decode cX8_digestOf 141 = .ok (.aload_n 0, 1) := by decide +kernel
theorem dX8_digestOf_142 : decode cX8_digestOf 142 = .ok (.getfield 53, 3) := by decide +kernel
theorem dX8_digestOf_145 : decode cX8_digestOf 145 = .ok (.ireturn, 1) := by decide +kernel
theorem dX8_digestOf_146 : decode cX8_digestOf 146 = .ok (.aload_n 0, 1) := by decide +kernel
theorem dX8_digestOf_147 : decode cX8_digestOf 147 = .ok (.iload_n 1, 1) := by decide +kernel
theorem dX8_digestOf_148 : decode cX8_digestOf 148 = .ok (.invokevirtual 129, 3) := by decide +kernel
theorem dX8_digestOf_151 : decode cX8_digestOf 151 = .ok (.ireturn, 1) := by decide +kernel
theorem dX8_digestOf_152 : decode cX8_digestOf 152 = .ok (.aload_n 0, 1) := by decide +kernel
theorem dX8_digestOf_153 : decode cX8_digestOf 153 = .ok (.iload_n 1, 1) := by decide +kernel
theorem dX8_digestOf_154 : decode cX8_digestOf 154 = .ok (.iconst 3, 1) := by decide +kernel
theorem dX8_digestOf_155 : decode cX8_digestOf 155 = .ok (.invokevirtual 49, 3) := by decide +kernel
theorem dX8_digestOf_158 : decode cX8_digestOf 158 = .ok (.ireturn, 1) := by decide +kernel
theorem dX8_quantileBy_0 : decode cX8_quantileBy 0 = .ok (.ldc2_w 113, 3) := by decide +kernel
theorem dX8_quantileBy_3 : decode cX8_quantileBy 3 = .ok (.iload_n 2, 1) := by decide +kernel
theorem dX8_quantileBy_4 : decode cX8_quantileBy 4 = .ok (.i2l, 1) := by decide +kernel
theorem dX8_quantileBy_5 : decode cX8_quantileBy 5 = .ok (.lmul, 1) := by decide +kernel
theorem dX8_quantileBy_6 : decode cX8_quantileBy 6 = .ok (.iload_n 1, 1) := by decide +kernel
theorem dX8_quantileBy_7 : decode cX8_quantileBy 7 = .ok (.i2l, 1) := by decide +kernel
theorem dX8_quantileBy_8 : decode cX8_quantileBy 8 = .ok (.lmul, 1) := by decide +kernel
theorem dX8_quantileBy_9 : decode cX8_quantileBy 9 = .ok (.lstore_n 3, 1) := by decide +kernel
theorem dX8_quantileBy_10 : decode cX8_quantileBy 10 = .ok (.ldc2_w 132, 3) := by decide +kernel
theorem dX8_quantileBy_13 : decode cX8_quantileBy 13 = .ok (.aload_n 0, 1) := by decide +kernel
theorem dX8_quantileBy_14 : decode cX8_quantileBy 14 = .ok (.getfield 19, 3) := by decide +kernel
theorem dX8_quantileBy_17 : decode cX8_quantileBy 17 = .ok (.iconst 0, 1) := by decide +kernel
theorem dX8_quantileBy_18 : decode cX8_quantileBy 18 = .ok (.iaload, 1) := by decide +kernel
theorem dX8_quantileBy_19 : decode cX8_quantileBy 19 = .ok (.i2l, 1) := by decide +kernel
theorem dX8_quantileBy_20 : decode cX8_quantileBy 20 = .ok (.lmul, 1) := by decide +kernel
theorem dX8_quantileBy_21 : decode cX8_quantileBy 21 = .ok (.lstore 5, 2) := by decide +kernel
theorem dX8_quantileBy_23 : decode cX8_quantileBy 23 = .ok (.lload_n 3, 1) := by decide +kernel
theorem dX8_quantileBy_24 : decode cX8_quantileBy 24 = .ok (.lload 5, 2) := by decide +kernel
theorem dX8_quantileBy_26 : decode cX8_quantileBy 26 = .ok (.lcmp, 1) := by decide +kernel
theorem dX8_quantileBy_27 : decode cX8_quantileBy 27 = .ok (.ifCond .gt 50, 3) := by decide +kernel
theorem dX8_quantileBy_30 : decode cX8_quantileBy 30 = .ok (.aload_n 0, 1) := by decide +kernel
theorem dX8_quantileBy_31 : decode cX8_quantileBy 31 = .ok (.getfield 22, 3) := by decide +kernel
theorem dX8_quantileBy_34 : decode cX8_quantileBy 34 = .ok (.iconst 0, 1) := by decide +kernel
theorem dX8_quantileBy_35 : decode cX8_quantileBy 35 = .ok (.iaload, 1) := by decide +kernel
theorem dX8_quantileBy_36 : decode cX8_quantileBy 36 = .ok (.aload_n 0, 1) := by decide +kernel
theorem dX8_quantileBy_37 : decode cX8_quantileBy 37 = .ok (.getfield 31, 3) := by decide +kernel
theorem dX8_quantileBy_40 : decode cX8_quantileBy 40 = .ok (.iconst 0, 1) := by decide +kernel
theorem dX8_quantileBy_41 : decode cX8_quantileBy 41 = .ok (.iaload, 1) := by decide +kernel
theorem dX8_quantileBy_42 : decode cX8_quantileBy 42 = .ok (.aload_n 0, 1) := by decide +kernel
theorem dX8_quantileBy_43 : decode cX8_quantileBy 43 = .ok (.getfield 19, 3) := by decide +kernel
theorem dX8_quantileBy_46 : decode cX8_quantileBy 46 = .ok (.iconst 0, 1) := by decide +kernel
theorem dX8_quantileBy_47 : decode cX8_quantileBy 47 = .ok (.iaload, 1) := by decide +kernel
theorem dX8_quantileBy_48 : decode cX8_quantileBy 48 = .ok (.imul, 1) := by decide +kernel
theorem dX8_quantileBy_49 : decode cX8_quantileBy 49 = .ok (.isub, 1) := by decide +kernel
theorem dX8_quantileBy_50 : decode cX8_quantileBy 50 = .ok (.i2l, 1) := by decide +kernel
theorem dX8_quantileBy_51 : decode cX8_quantileBy 51 = .ok (.lload_n 3, 1) := by decide +kernel
theorem dX8_quantileBy_52 : decode cX8_quantileBy 52 = .ok (.lmul, 1) := by decide +kernel
theorem dX8_quantileBy_53 : decode cX8_quantileBy 53 = .ok (.lstore 7, 2) := by decide +kernel
theorem dX8_quantileBy_55 : decode cX8_quantileBy 55 = .ok (.aload_n 0, 1) := by decide +kernel
theorem dX8_quantileBy_56 : decode cX8_quantileBy 56 = .ok (.getfield 31, 3) := by decide +kernel
theorem dX8_quantileBy_59 : decode cX8_quantileBy 59 = .ok (.iconst 0, 1) := by decide +kernel
theorem dX8_quantileBy_60 : decode cX8_quantileBy 60 = .ok (.iaload, 1) := by decide +kernel
theorem dX8_quantileBy_61 : decode cX8_quantileBy 61 = .ok (.lload 7, 2) := by decide +kernel
theorem dX8_quantileBy_63 : decode cX8_quantileBy 63 = .ok (.aload_n 0, 1) := by decide +kernel
theorem dX8_quantileBy_64 : decode cX8_quantileBy 64 = .ok (.getfield 19, 3) := by decide +kernel
theorem dX8_quantileBy_67 : decode cX8_quantileBy 67 = .ok (.iconst 0, 1) := by decide +kernel
theorem dX8_quantileBy_68 : decode cX8_quantileBy 68 = .ok (.iaload, 1) := by decide +kernel
theorem dX8_quantileBy_69 : decode cX8_quantileBy 69 = .ok (.i2l, 1) := by decide +kernel
theorem dX8_quantileBy_70 : decode cX8_quantileBy 70 = .ok (.lload 5, 2) := by decide +kernel
theorem dX8_quantileBy_72 : decode cX8_quantileBy 72 = .ok (.lmul, 1) := by decide +kernel
theorem dX8_quantileBy_73 : decode cX8_quantileBy 73 = .ok (.ldiv, 1) := by decide +kernel
theorem dX8_quantileBy_74 : decode cX8_quantileBy 74 = .ok (.l2i, 1) := by decide +kernel
theorem dX8_quantileBy_75 : decode cX8_quantileBy 75 = .ok (.iadd, 1) := by decide +kernel
theorem dX8_quantileBy_76 : decode cX8_quantileBy 76 = .ok (.ireturn, 1) := by decide +kernel
theorem dX8_quantileBy_77 : decode cX8_quantileBy 77 = .ok (.aload_n 0, 1) := by decide +kernel
theorem dX8_quantileBy_78 : decode cX8_quantileBy 78 = .ok (.getfield 53, 3) := by decide +kernel
theorem dX8_quantileBy_81 : decode cX8_quantileBy 81 = .ok (.iconst 1, 1) := by decide +kernel
theorem dX8_quantileBy_82 : decode cX8_quantileBy 82 = .ok (.isub, 1) := by decide +kernel
theorem dX8_quantileBy_83 : decode cX8_quantileBy 83 = .ok (.istore 7, 2) := by decide +kernel
theorem dX8_quantileBy_85 : decode cX8_quantileBy 85 = .ok (.ldc2_w 132, 3) := by decide +kernel
theorem dX8_quantileBy_88 : decode cX8_quantileBy 88 = .ok (.iconst 2, 1) := by decide +kernel
theorem dX8_quantileBy_89 : decode cX8_quantileBy 89 = .ok (.iload_n 1, 1) := by decide +kernel
theorem dX8_quantileBy_90 : decode cX8_quantileBy 90 = .ok (.imul, 1) := by decide +kernel
theorem dX8_quantileBy_91 : decode cX8_quantileBy 91 = .ok (.aload_n 0, 1) := by decide +kernel
theorem dX8_quantileBy_92 : decode cX8_quantileBy 92 = .ok (.getfield 19, 3) := by decide +kernel
theorem dX8_quantileBy_95 : decode cX8_quantileBy 95 = .ok (.iload 7, 2) := by decide +kernel
theorem dX8_quantileBy_97 : decode cX8_quantileBy 97 = .ok (.iaload, 1) := by decide +kernel
theorem dX8_quantileBy_98 : decode cX8_quantileBy 98 = .ok (.isub, 1) := by decide +kernel
theorem dX8_quantileBy_99 : decode cX8_quantileBy 99 = .ok (.i2l, 1) := by decide +kernel
theorem dX8_quantileBy_100 : decode cX8_quantileBy 100 = .ok (.lmul, 1) := by decide +kernel
theorem dX8_quantileBy_101 : decode cX8_quantileBy 101 = .ok (.lstore 8, 2) := by decide +kernel
theorem dX8_quantileBy_103 : decode cX8_quantileBy 103 = .ok (.lload_n 3, 1) := by decide +kernel
theorem dX8_quantileBy_104 : decode cX8_quantileBy 104 = .ok (.lload 8, 2) := by decide +kernel
theorem dX8_quantileBy_106 : decode cX8_quantileBy 106 = .ok (.lcmp, 1) := by decide +kernel
theorem dX8_quantileBy_107 : decode cX8_quantileBy 107 = .ok (.ifCond .lt 74, 3) := by decide +kernel
theorem dX8_quantileBy_110 : decode cX8_quantileBy 110 = .ok (.ldc2_w 134, 3) := by decide +kernel
theorem dX8_quantileBy_113 : decode cX8_quantileBy 113 = .ok (.iload_n 1, 1) := by decide +kernel
theorem dX8_quantileBy_114 : decode cX8_quantileBy 114 = .ok (.i2l, 1) := by decide +kernel
theorem dX8_quantileBy_115 : decode cX8_quantileBy 115 = .ok (.lmul, 1) := by decide +kernel
theorem dX8_quantileBy_116 : decode cX8_quantileBy 116 = .ok (.lload 8, 2) := by decide +kernel
theorem dX8_quantileBy_118 : decode cX8_quantileBy 118 = .ok (.lsub, 1) := by decide +kernel
theorem dX8_quantileBy_119 : decode cX8_quantileBy 119 = .ok (.lstore 10, 2) := by decide +kernel
theorem dX8_quantileBy_121 : decode cX8_quantileBy 121 = .ok (.aload_n 0, 1) := by decide +kernel
theorem dX8_quantileBy_122 : decode cX8_quantileBy 122 = .ok (.getfield 22, 3) := by decide +kernel
theorem dX8_quantileBy_125 : decode cX8_quantileBy 125 = .ok (.iload 7, 2) := by decide +kernel
theorem dX8_quantileBy_127 : decode cX8_quantileBy 127 = .ok (.iaload, 1) := by decide +kernel
theorem dX8_quantileBy_128 : decode cX8_quantileBy 128 = .ok (.i2l, 1) := by decide +kernel
theorem dX8_quantileBy_129 : decode cX8_quantileBy 129 = .ok (.lload 10, 2) := by decide +kernel
theorem dX8_quantileBy_131 : decode cX8_quantileBy 131 = .ok (.lmul, 1) := by decide +kernel
theorem dX8_quantileBy_132 : decode cX8_quantileBy 132 = .ok (.aload_n 0, 1) := by decide +kernel
theorem dX8_quantileBy_133 : decode cX8_quantileBy 133 = .ok (.getfield 31, 3) := by decide +kernel
theorem dX8_quantileBy_136 : decode cX8_quantileBy 136 = .ok (.iload_n 1, 1) := by decide +kernel
theorem dX8_quantileBy_137 : decode cX8_quantileBy 137 = .ok (.iconst 1, 1) := by decide +kernel
theorem dX8_quantileBy_138 : decode cX8_quantileBy 138 = .ok (.isub, 1) := by decide +kernel
theorem dX8_quantileBy_139 : decode cX8_quantileBy 139 = .ok (.iaload, 1) := by decide +kernel
theorem dX8_quantileBy_140 : decode cX8_quantileBy 140 = .ok (.aload_n 0, 1) := by decide +kernel
theorem dX8_quantileBy_141 : decode cX8_quantileBy 141 = .ok (.getfield 19, 3) := by decide +kernel
theorem dX8_quantileBy_144 : decode cX8_quantileBy 144 = .ok (.iload 7, 2) := by decide +kernel
theorem dX8_quantileBy_146 : decode cX8_quantileBy 146 = .ok (.iaload, 1) := by decide +kernel
theorem dX8_quantileBy_147 : decode cX8_quantileBy 147 = .ok (.imul, 1) := by decide +kernel
theorem dX8_quantileBy_148 : decode cX8_quantileBy 148 = .ok (.aload_n 0, 1) := by decide +kernel
theorem dX8_quantileBy_149 : decode cX8_quantileBy 149 = .ok (.getfield 22, 3) := by decide +kernel
theorem dX8_quantileBy_152 : decode cX8_quantileBy 152 = .ok (.iload 7, 2) := by decide +kernel
theorem dX8_quantileBy_154 : decode cX8_quantileBy 154 = .ok (.iaload, 1) := by decide +kernel
theorem dX8_quantileBy_155 : decode cX8_quantileBy 155 = .ok (.isub, 1) := by decide +kernel
theorem dX8_quantileBy_156 : decode cX8_quantileBy 156 = .ok (.i2l, 1) := by decide +kernel
theorem dX8_quantileBy_157 : decode cX8_quantileBy 157 = .ok (.lload_n 3, 1) := by decide +kernel
theorem dX8_quantileBy_158 : decode cX8_quantileBy 158 = .ok (.lload 8, 2) := by decide +kernel
theorem dX8_quantileBy_160 : decode cX8_quantileBy 160 = .ok (.lsub, 1) := by decide +kernel
theorem dX8_quantileBy_161 : decode cX8_quantileBy 161 = .ok (.lmul, 1) := by decide +kernel
theorem dX8_quantileBy_162 : decode cX8_quantileBy 162 = .ok (.ladd, 1) := by decide +kernel
theorem dX8_quantileBy_163 : decode cX8_quantileBy 163 = .ok (.lstore 12, 2) := by decide +kernel
theorem dX8_quantileBy_165 : decode cX8_quantileBy 165 = .ok (.lload 12, 2) := by decide +kernel
theorem dX8_quantileBy_167 : decode cX8_quantileBy 167 = .ok (.aload_n 0, 1) := by decide +kernel
theorem dX8_quantileBy_168 : decode cX8_quantileBy 168 = .ok (.getfield 19, 3) := by decide +kernel
theorem dX8_quantileBy_171 : decode cX8_quantileBy 171 = .ok (.iload 7, 2) := by decide +kernel
theorem dX8_quantileBy_173 : decode cX8_quantileBy 173 = .ok (.iaload, 1) := by decide +kernel
theorem dX8_quantileBy_174 : decode cX8_quantileBy 174 = .ok (.i2l, 1) := by decide +kernel
theorem dX8_quantileBy_175 : decode cX8_quantileBy 175 = .ok (.lload 10, 2) := by decide +kernel
theorem dX8_quantileBy_177 : decode cX8_quantileBy 177 = .ok (.lmul, 1) := by decide +kernel
theorem dX8_quantileBy_178 : decode cX8_quantileBy 178 = .ok (.ldiv, 1) := by decide +kernel
theorem dX8_quantileBy_179 : decode cX8_quantileBy 179 = .ok (.l2i, 1) := by decide +kernel
theorem dX8_quantileBy_180 : decode cX8_quantileBy 180 = .ok (.ireturn, 1) := by decide +kernel
theorem dX8_quantileBy_181 : decode cX8_quantileBy 181 = .ok (.iconst 0, 1) := by decide +kernel
theorem dX8_quantileBy_182 : decode cX8_quantileBy 182 = .ok (.istore 10, 2) := by decide +kernel
theorem dX8_quantileBy_184 : decode cX8_quantileBy 184 = .ok (.iconst 0, 1) := by decide +kernel
theorem dX8_quantileBy_185 : decode cX8_quantileBy 185 = .ok (.istore 11, 2) := by decide +kernel
theorem dX8_quantileBy_187 : decode cX8_quantileBy 187 = .ok (.ldc2_w 132, 3) := by decide +kernel
theorem dX8_quantileBy_190 : decode cX8_quantileBy 190 = .ok (.iconst 2, 1) := by decide +kernel
theorem dX8_quantileBy_191 : decode cX8_quantileBy 191 = .ok (.iload 11, 2) := by decide +kernel
theorem dX8_quantileBy_193 : decode cX8_quantileBy 193 = .ok (.aload_n 0, 1) := by decide +kernel
theorem dX8_quantileBy_194 : decode cX8_quantileBy 194 = .ok (.getfield 19, 3) := by decide +kernel
theorem dX8_quantileBy_197 : decode cX8_quantileBy 197 = .ok (.iload 10, 2) := by decide +kernel
theorem dX8_quantileBy_199 : decode cX8_quantileBy 199 = .ok (.iaload, 1) := by decide +kernel
theorem dX8_quantileBy_200 : decode cX8_quantileBy 200 = .ok (.iadd, 1) := by decide +kernel
theorem dX8_quantileBy_201 : decode cX8_quantileBy 201 = .ok (.imul, 1) := by decide +kernel
theorem dX8_quantileBy_202 : decode cX8_quantileBy 202 = .ok (.aload_n 0, 1) := by decide +kernel
theorem dX8_quantileBy_203 : decode cX8_quantileBy 203 = .ok (.getfield 19, 3) := by decide +kernel
theorem dX8_quantileBy_206 : decode cX8_quantileBy 206 = .ok (.iload 10, 2) := by decide +kernel
theorem dX8_quantileBy_208 : decode cX8_quantileBy 208 = .ok (.iconst 1, 1) := by decide +kernel
theorem dX8_quantileBy_209 : decode cX8_quantileBy 209 = .ok (.iadd, 1) := by decide +kernel
theorem dX8_quantileBy_210 : decode cX8_quantileBy 210 = .ok (.iaload, 1) := by decide +kernel
theorem dX8_quantileBy_211 : decode cX8_quantileBy 211 = .ok (.iadd, 1) := by decide +kernel
theorem dX8_quantileBy_212 : decode cX8_quantileBy 212 = .ok (.i2l, 1) := by decide +kernel
theorem dX8_quantileBy_213 : decode cX8_quantileBy 213 = .ok (.lmul, 1) := by decide +kernel
theorem dX8_quantileBy_214 : decode cX8_quantileBy 214 = .ok (.lload_n 3, 1) := by decide +kernel
theorem dX8_quantileBy_215 : decode cX8_quantileBy 215 = .ok (.lcmp, 1) := by decide +kernel
theorem dX8_quantileBy_216 : decode cX8_quantileBy 216 = .ok (.ifCond .gt 21, 3) := by decide +kernel
theorem dX8_quantileBy_219 : decode cX8_quantileBy 219 = .ok (.iload 11, 2) := by decide +kernel
theorem dX8_quantileBy_221 : decode cX8_quantileBy 221 = .ok (.aload_n 0, 1) := by decide +kernel
theorem dX8_quantileBy_222 : decode cX8_quantileBy 222 = .ok (.getfield 19, 3) := by decide +kernel
theorem dX8_quantileBy_225 : decode cX8_quantileBy 225 = .ok (.iload 10, 2) := by decide +kernel
theorem dX8_quantileBy_227 : decode cX8_quantileBy 227 = .ok (.iaload, 1) := by decide +kernel
theorem dX8_quantileBy_228 : decode cX8_quantileBy 228 = .ok (.iadd, 1) := by decide +kernel
theorem dX8_quantileBy_229 : decode cX8_quantileBy 229 = .ok (.istore 11, 2) := by decide +kernel
theorem dX8_quantileBy_231 : decode cX8_quantileBy 231 = .ok (.iinc 10 1, 3) := by decide +kernel
theorem dX8_quantileBy_234 : decode cX8_quantileBy 234 = .ok (.goto (-47), 3) := by decide +kernel
theorem dX8_quantileBy_237 : decode cX8_quantileBy 237 = .ok (.ldc2_w 132, 3) := by decide +kernel
theorem dX8_quantileBy_240 : decode cX8_quantileBy 240 = .ok (.iconst 2, 1) := by decide +kernel
theorem dX8_quantileBy_241 : decode cX8_quantileBy 241 = .ok (.iload 11, 2) := by decide +kernel
theorem dX8_quantileBy_243 : decode cX8_quantileBy 243 = .ok (.imul, 1) := by decide +kernel
theorem dX8_quantileBy_244 : decode cX8_quantileBy 244 = .ok (.aload_n 0, 1) := by decide +kernel
theorem dX8_quantileBy_245 : decode cX8_quantileBy 245 = .ok (.getfield 19, 3) := by decide +kernel
theorem dX8_quantileBy_248 : decode cX8_quantileBy 248 = .ok (.iload 10, 2) := by decide +kernel
theorem dX8_quantileBy_250 : decode cX8_quantileBy 250 = .ok (.iaload, 1) := by decide +kernel
theorem dX8_quantileBy_251 : decode cX8_quantileBy 251 = .ok (.iadd, 1) := by decide +kernel
theorem dX8_quantileBy_252 : decode cX8_quantileBy 252 = .ok (.i2l, 1) := by decide +kernel
theorem dX8_quantileBy_253 : decode cX8_quantileBy 253 = .ok (.lmul, 1) := by decide +kernel
theorem dX8_quantileBy_254 : decode cX8_quantileBy 254 = .ok (.lstore 12, 2) := by decide +kernel
theorem dX8_quantileBy_256 : decode cX8_quantileBy 256 = .ok (.ldc2_w 132, 3) := by decide +kernel
theorem dX8_quantileBy_259 : decode cX8_quantileBy 259 = .ok (.aload_n 0, 1) := by decide +kernel
theorem dX8_quantileBy_260 : decode cX8_quantileBy 260 = .ok (.getfield 19, 3) := by decide +kernel
theorem dX8_quantileBy_263 : decode cX8_quantileBy 263 = .ok (.iload 10, 2) := by decide +kernel
theorem dX8_quantileBy_265 : decode cX8_quantileBy 265 = .ok (.iaload, 1) := by decide +kernel
theorem dX8_quantileBy_266 : decode cX8_quantileBy 266 = .ok (.aload_n 0, 1) := by decide +kernel
theorem dX8_quantileBy_267 : decode cX8_quantileBy 267 = .ok (.getfield 19, 3) := by decide +kernel
theorem dX8_quantileBy_270 : decode cX8_quantileBy 270 = .ok (.iload 10, 2) := by decide +kernel
theorem dX8_quantileBy_272 : decode cX8_quantileBy 272 = .ok (.iconst 1, 1) := by decide +kernel
theorem dX8_quantileBy_273 : decode cX8_quantileBy 273 = .ok (.iadd, 1) := by decide +kernel
theorem dX8_quantileBy_274 : decode cX8_quantileBy 274 = .ok (.iaload, 1) := by decide +kernel
theorem dX8_quantileBy_275 : decode cX8_quantileBy 275 = .ok (.iadd, 1) := by decide +kernel
theorem dX8_quantileBy_276 : decode cX8_quantileBy 276 = .ok (.i2l, 1) := by decide +kernel
theorem dX8_quantileBy_277 : decode cX8_quantileBy 277 = .ok (.lmul, 1) := by decide +kernel
theorem dX8_quantileBy_278 : decode cX8_quantileBy 278 = .ok (.lstore 14, 2) := by decide +kernel
theorem dX8_quantileBy_280 : decode cX8_quantileBy 280 = .ok (.aload_n 0, 1) := by decide +kernel
theorem dX8_quantileBy_281 : decode cX8_quantileBy 281 = .ok (.getfield 22, 3) := by decide +kernel
theorem dX8_quantileBy_284 : decode cX8_quantileBy 284 = .ok (.iload 10, 2) := by decide +kernel
theorem dX8_quantileBy_286 : decode cX8_quantileBy 286 = .ok (.iaload, 1) := by decide +kernel
theorem dX8_quantileBy_287 : decode cX8_quantileBy 287 = .ok (.i2l, 1) := by decide +kernel
theorem dX8_quantileBy_288 : decode cX8_quantileBy 288 = .ok (.aload_n 0, 1) := by decide +kernel
theorem dX8_quantileBy_289 : decode cX8_quantileBy 289 = .ok (.getfield 19, 3) := by decide +kernel
theorem dX8_quantileBy_292 : decode cX8_quantileBy 292 = .ok (.iload 10, 2) := by decide +kernel
theorem dX8_quantileBy_294 : decode cX8_quantileBy 294 = .ok (.iconst 1, 1) := by decide +kernel
theorem dX8_quantileBy_295 : decode cX8_quantileBy 295 = .ok (.iadd, 1) := by decide +kernel
theorem dX8_quantileBy_296 : decode cX8_quantileBy 296 = .ok (.iaload, 1) := by decide +kernel
theorem dX8_quantileBy_297 : decode cX8_quantileBy 297 = .ok (.i2l, 1) := by decide +kernel
theorem dX8_quantileBy_298 : decode cX8_quantileBy 298 = .ok (.lmul, 1) := by decide +kernel
theorem dX8_quantileBy_299 : decode cX8_quantileBy 299 = .ok (.lstore 16, 2) := by decide +kernel
theorem dX8_quantileBy_301 : decode cX8_quantileBy 301 = .ok (.aload_n 0, 1) := by decide +kernel
theorem dX8_quantileBy_302 : decode cX8_quantileBy 302 = .ok (.getfield 22, 3) := by decide +kernel
theorem dX8_quantileBy_305 : decode cX8_quantileBy 305 = .ok (.iload 10, 2) := by decide +kernel
theorem dX8_quantileBy_307 : decode cX8_quantileBy 307 = .ok (.iconst 1, 1) := by decide +kernel
theorem dX8_quantileBy_308 : decode cX8_quantileBy 308 = .ok (.iadd, 1) := by decide +kernel
theorem dX8_quantileBy_309 : decode cX8_quantileBy 309 = .ok (.iaload, 1) := by decide +kernel
theorem dX8_quantileBy_310 : decode cX8_quantileBy 310 = .ok (.i2l, 1) := by decide +kernel
theorem dX8_quantileBy_311 : decode cX8_quantileBy 311 = .ok (.aload_n 0, 1) := by decide +kernel
theorem dX8_quantileBy_312 : decode cX8_quantileBy 312 = .ok (.getfield 19, 3) := by decide +kernel
theorem dX8_quantileBy_315 : decode cX8_quantileBy 315 = .ok (.iload 10, 2) := by decide +kernel
theorem dX8_quantileBy_317 : decode cX8_quantileBy 317 = .ok (.iaload, 1) := by decide +kernel
theorem dX8_quantileBy_318 : decode cX8_quantileBy 318 = .ok (.i2l, 1) := by decide +kernel
theorem dX8_quantileBy_319 : decode cX8_quantileBy 319 = .ok (.lmul, 1) := by decide +kernel
theorem dX8_quantileBy_320 : decode cX8_quantileBy 320 = .ok (.lstore 18, 2) := by decide +kernel
theorem dX8_quantileBy_322 : decode cX8_quantileBy 322 = .ok (.lload 16, 2) := by decide +kernel
theorem dX8_quantileBy_324 : decode cX8_quantileBy 324 = .ok (.lload 14, 2) := by decide +kernel
theorem dX8_quantileBy_326 : decode cX8_quantileBy 326 = .ok (.lmul, 1) := by decide +kernel
theorem dX8_quantileBy_327 : decode cX8_quantileBy 327 = .ok (.lload 18, 2) := by decide +kernel
theorem dX8_quantileBy_329 : decode cX8_quantileBy 329 = .ok (.lload 16, 2) := by decide +kernel
theorem dX8_quantileBy_331 : decode cX8_quantileBy 331 = .ok (.lsub, 1) := by decide +kernel
theorem dX8_quantileBy_332 : decode cX8_quantileBy 332 = .ok (.lload_n 3, 1) := by decide +kernel
theorem dX8_quantileBy_333 : decode cX8_quantileBy 333 = .ok (.lload 12, 2) := by decide +kernel
theorem dX8_quantileBy_335 : decode cX8_quantileBy 335 = .ok (.lsub, 1) := by decide +kernel
theorem dX8_quantileBy_336 : decode cX8_quantileBy 336 = .ok (.lmul, 1) := by decide +kernel
theorem dX8_quantileBy_337 : decode cX8_quantileBy 337 = .ok (.ladd, 1) := by decide +kernel
theorem dX8_quantileBy_338 : decode cX8_quantileBy 338 = .ok (.aload_n 0, 1) := by decide +kernel
theorem dX8_quantileBy_339 : decode cX8_quantileBy 339 = .ok (.getfield 19, 3) := by decide +kernel
theorem dX8_quantileBy_342 : decode cX8_quantileBy 342 = .ok (.iload 10, 2) := by decide +kernel
theorem dX8_quantileBy_344 : decode cX8_quantileBy 344 = .ok (.iaload, 1) := by decide +kernel
theorem dX8_quantileBy_345 : decode cX8_quantileBy 345 = .ok (.i2l, 1) := by decide +kernel
theorem dX8_quantileBy_346 : decode cX8_quantileBy 346 = .ok (.aload_n 0, 1) := by decide +kernel
theorem dX8_quantileBy_347 : decode cX8_quantileBy 347 = .ok (.getfield 19, 3) := by decide +kernel
theorem dX8_quantileBy_350 : decode cX8_quantileBy 350 = .ok (.iload 10, 2) := by decide +kernel
theorem dX8_quantileBy_352 : decode cX8_quantileBy 352 = .ok (.iconst 1, 1) := by decide +kernel
theorem dX8_quantileBy_353 : decode cX8_quantileBy 353 = .ok (.iadd, 1) := by decide +kernel
theorem dX8_quantileBy_354 : decode cX8_quantileBy 354 = .ok (.iaload, 1) := by decide +kernel
theorem dX8_quantileBy_355 : decode cX8_quantileBy 355 = .ok (.i2l, 1) := by decide +kernel
theorem dX8_quantileBy_356 : decode cX8_quantileBy 356 = .ok (.lmul, 1) := by decide +kernel
theorem dX8_quantileBy_357 : decode cX8_quantileBy 357 = .ok (.lload 14, 2) := by decide +kernel
theorem dX8_quantileBy_359 : decode cX8_quantileBy 359 = .ok (.lmul, 1) := by decide +kernel
theorem dX8_quantileBy_360 : decode cX8_quantileBy 360 = .ok (.ldiv, 1) := by decide +kernel
theorem dX8_quantileBy_361 : decode cX8_quantileBy 361 = .ok (.l2i, 1) := by decide +kernel
theorem dX8_quantileBy_362 : decode cX8_quantileBy 362 = .ok (.ireturn, 1) := by decide +kernel
theorem dX8_whyNoQuantile_0 : decode cX8_whyNoQuantile 0 = .ok (.iload_n 1, 1) := by decide +kernel
theorem dX8_whyNoQuantile_1 : decode cX8_whyNoQuantile 1 = .ok (.invokestatic 97, 3) := by decide +kernel
theorem dX8_whyNoQuantile_4 : decode cX8_whyNoQuantile 4 = .ok (.ifCond .eq 12, 3) := by decide +kernel
theorem dX8_whyNoQuantile_7 : decode cX8_whyNoQuantile 7 = .ok (.iload_n 2, 1) := by decide +kernel
theorem dX8_whyNoQuantile_8 : decode cX8_whyNoQuantile 8 = .ok (.iconst 0, 1) := by decide +kernel
theorem dX8_whyNoQuantile_9 : decode cX8_whyNoQuantile 9 = .ok (.iload_n 3, 1) := by decide +kernel
theorem dX8_whyNoQuantile_10 : decode cX8_whyNoQuantile 10 = .ok (.invokestatic 45, 3) := by decide +kernel
theorem dX8_whyNoQuantile_13 : decode cX8_whyNoQuantile 13 = .ok (.ifCond .ne 8, 3) := by decide +kernel
theorem dX8_whyNoQuantile_16 : decode cX8_whyNoQuantile 16 = .ok (.ldc 101, 2) := by decide +kernel
theorem dX8_whyNoQuantile_18 : decode cX8_whyNoQuantile 18 = .ok (.goto 17, 3) := by decide +kernel
theorem dX8_whyNoQuantile_21 : decode cX8_whyNoQuantile 21 = .ok (.aload_n 0, 1) := by decide +kernel
theorem dX8_whyNoQuantile_22 : decode cX8_whyNoQuantile 22 = .ok (.iload_n 1, 1) := by decide +kernel
theorem dX8_whyNoQuantile_23 : decode cX8_whyNoQuantile 23 = .ok (.invokevirtual 102, 3) := by decide +kernel
theorem dX8_whyNoQuantile_26 : decode cX8_whyNoQuantile 26 = .ok (.ifCond .ne 8, 3) := by decide +kernel
theorem dX8_whyNoQuantile_29 : decode cX8_whyNoQuantile 29 = .ok (.ldc 136, 2) := by decide +kernel
theorem dX8_whyNoQuantile_31 : decode cX8_whyNoQuantile 31 = .ok (.goto 4, 3) := by decide +kernel
theorem dX8_whyNoQuantile_34 : decode cX8_whyNoQuantile 34 = .ok (.iconst 0, 1) := by decide +kernel
theorem dX8_whyNoQuantile_35 : decode cX8_whyNoQuantile 35 = .ok (.ireturn, 1) := by decide +kernel
theorem dX8_findAll_0 : decode cX8_findAll 0 = .ok (.aload_n 0, 1) := by decide +kernel
theorem dX8_findAll_1 : decode cX8_findAll 1 = .ok (.iload_n 1, 1) := by decide +kernel
theorem dX8_findAll_2 : decode cX8_findAll 2 = .ok (.invokevirtual 85, 3) := by decide +kernel
theorem dX8_findAll_5 : decode cX8_findAll 5 = .ok (.aload_n 0, 1) := by decide +kernel
theorem dX8_findAll_6 : decode cX8_findAll 6 = .ok (.iload_n 1, 1) := by decide +kernel
theorem dX8_findAll_7 : decode cX8_findAll 7 = .ok (.invokevirtual 123, 3) := by decide +kernel
theorem dX8_findAll_10 : decode cX8_findAll 10 = .ok (.return_, 1) := by decide +kernel
theorem dX8_truthBy_0 : decode cX8_truthBy 0 = .ok (.aload_n 0, 1) := by decide +kernel
theorem dX8_truthBy_1 : decode cX8_truthBy 1 = .ok (.getfield 31, 3) := by decide +kernel
theorem dX8_truthBy_4 : decode cX8_truthBy 4 = .ok (.iload_n 2, 1) := by decide +kernel
theorem dX8_truthBy_5 : decode cX8_truthBy 5 = .ok (.iload_n 1, 1) := by decide +kernel
theorem dX8_truthBy_6 : decode cX8_truthBy 6 = .ok (.iconst 1, 1) := by decide +kernel
theorem dX8_truthBy_7 : decode cX8_truthBy 7 = .ok (.isub, 1) := by decide +kernel
theorem dX8_truthBy_8 : decode cX8_truthBy 8 = .ok (.imul, 1) := by decide +kernel
theorem dX8_truthBy_9 : decode cX8_truthBy 9 = .ok (.sipush 1000, 3) := by decide +kernel
theorem dX8_truthBy_12 : decode cX8_truthBy 12 = .ok (.idiv, 1) := by decide +kernel
theorem dX8_truthBy_13 : decode cX8_truthBy 13 = .ok (.iaload, 1) := by decide +kernel
theorem dX8_truthBy_14 : decode cX8_truthBy 14 = .ok (.ireturn, 1) := by decide +kernel
theorem dX8_quantile_0 : decode cX8_quantile 0 = .ok (.aload_n 0, 1) := by decide +kernel
theorem dX8_quantile_1 : decode cX8_quantile 1 = .ok (.iload_n 1, 1) := by decide +kernel
theorem dX8_quantile_2 : decode cX8_quantile 2 = .ok (.iload_n 2, 1) := by decide +kernel
theorem dX8_quantile_3 : decode cX8_quantile 3 = .ok (.sipush 1000, 3) := by decide +kernel
theorem dX8_quantile_6 : decode cX8_quantile 6 = .ok (.invokevirtual 137, 3) := by decide +kernel
theorem dX8_quantile_9 : decode cX8_quantile 9 = .ok (.istore_n 3, 1) := by decide +kernel
theorem dX8_quantile_10 : decode cX8_quantile 10 = .ok (.iload_n 3, 1) := by decide +kernel
theorem dX8_quantile_11 : decode cX8_quantile 11 = .ok (.ifCond .ge 5, 3) := by decide +kernel
theorem dX8_quantile_14 : decode cX8_quantile 14 = .ok (.iload_n 3, 1) := by decide +kernel
theorem dX8_quantile_15 : decode cX8_quantile 15 = .ok (.ireturn, 1) := by decide +kernel
theorem dX8_quantile_16 : decode cX8_quantile 16 = .ok (.aload_n 0, 1) := by decide +kernel
theorem dX8_quantile_17 : decode cX8_quantile 17 = .ok (.iload_n 1, 1) := by decide +kernel
theorem dX8_quantile_18 : decode cX8_quantile 18 = .ok (.invokevirtual 140, 3) := by decide +kernel
theorem dX8_quantile_21 : decode cX8_quantile 21 = .ok (.aload_n 0, 1) := by decide +kernel
theorem dX8_quantile_22 : decode cX8_quantile 22 = .ok (.aload_n 0, 1) := by decide +kernel
theorem dX8_quantile_23 : decode cX8_quantile 23 = .ok (.iload_n 1, 1) := by decide +kernel
theorem dX8_quantile_24 : decode cX8_quantile 24 = .ok (.invokevirtual 102, 3) := by decide +kernel
theorem dX8_quantile_27 : decode cX8_quantile 27 = .ok (.iload_n 2, 1) := by decide +kernel
theorem dX8_quantile_28 : decode cX8_quantile 28 = .ok (.invokevirtual 143, 3) := by decide +kernel
theorem dX8_quantile_31 : decode cX8_quantile 31 = .ok (.ireturn, 1) := by decide +kernel
theorem dX8_truth_0 : decode cX8_truth 0 = .ok (.aload_n 0, 1) := by decide +kernel
theorem dX8_truth_1 : decode cX8_truth 1 = .ok (.iload_n 1, 1) := by decide +kernel
theorem dX8_truth_2 : decode cX8_truth 2 = .ok (.iload_n 2, 1) := by decide +kernel
theorem dX8_truth_3 : decode cX8_truth 3 = .ok (.sipush 1000, 3) := by decide +kernel
theorem dX8_truth_6 : decode cX8_truth 6 = .ok (.invokevirtual 137, 3) := by decide +kernel
theorem dX8_truth_9 : decode cX8_truth 9 = .ok (.istore_n 3, 1) := by decide +kernel
theorem dX8_truth_10 : decode cX8_truth 10 = .ok (.iload_n 3, 1) := by decide +kernel
theorem dX8_truth_11 : decode cX8_truth 11 = .ok (.ifCond .ge 5, 3) := by decide +kernel
theorem dX8_truth_14 : decode cX8_truth 14 = .ok (.iload_n 3, 1) := by decide +kernel
theorem dX8_truth_15 : decode cX8_truth 15 = .ok (.ireturn, 1) := by decide +kernel
theorem dX8_truth_16 : decode cX8_truth 16 = .ok (.aload_n 0, 1) := by decide +kernel
theorem dX8_truth_17 : decode cX8_truth 17 = .ok (.iload_n 1, 1) := by decide +kernel
theorem dX8_truth_18 : decode cX8_truth 18 = .ok (.invokevirtual 140, 3) := by decide +kernel
theorem dX8_truth_21 : decode cX8_truth 21 = .ok (.aload_n 0, 1) := by decide +kernel
theorem dX8_truth_22 : decode cX8_truth 22 = .ok (.aload_n 0, 1) := by decide +kernel
theorem dX8_truth_23 : decode cX8_truth 23 = .ok (.iload_n 1, 1) := by decide +kernel
theorem dX8_truth_24 : decode cX8_truth 24 = .ok (.invokevirtual 102, 3) := by decide +kernel
theorem dX8_truth_27 : decode cX8_truth 27 = .ok (.iload_n 2, 1) := by decide +kernel
theorem dX8_truth_28 : decode cX8_truth 28 = .ok (.invokevirtual 146, 3) := by decide +kernel
theorem dX8_truth_31 : decode cX8_truth 31 = .ok (.ireturn, 1) := by decide +kernel
theorem dX8_worst_0 : decode cX8_worst 0 = .ok (.aload_n 0, 1) := by decide +kernel
theorem dX8_worst_1 : decode cX8_worst 1 = .ok (.iload_n 1, 1) := by decide +kernel
theorem dX8_worst_2 : decode cX8_worst 2 = .ok (.iload_n 2, 1) := by decide +kernel
theorem dX8_worst_3 : decode cX8_worst 3 = .ok (.iconst 1, 1) := by decide +kernel
theorem dX8_worst_4 : decode cX8_worst 4 = .ok (.invokevirtual 137, 3) := by decide +kernel
theorem dX8_worst_7 : decode cX8_worst 7 = .ok (.istore_n 3, 1) := by decide +kernel
theorem dX8_worst_8 : decode cX8_worst 8 = .ok (.iload_n 3, 1) := by decide +kernel
theorem dX8_worst_9 : decode cX8_worst 9 = .ok (.ifCond .ge 5, 3) := by decide +kernel
theorem dX8_worst_12 : decode cX8_worst 12 = .ok (.iload_n 3, 1) := by decide +kernel
theorem dX8_worst_13 : decode cX8_worst 13 = .ok (.ireturn, 1) := by decide +kernel
theorem dX8_worst_14 : decode cX8_worst 14 = .ok (.aload_n 0, 1) := by decide +kernel
theorem dX8_worst_15 : decode cX8_worst 15 = .ok (.iload_n 1, 1) := by decide +kernel
theorem dX8_worst_16 : decode cX8_worst 16 = .ok (.invokevirtual 140, 3) := by decide +kernel
theorem dX8_worst_19 : decode cX8_worst 19 = .ok (.aload_n 0, 1) := by decide +kernel
theorem dX8_worst_20 : decode cX8_worst 20 = .ok (.iload_n 1, 1) := by decide +kernel
theorem dX8_worst_21 : decode cX8_worst 21 = .ok (.invokevirtual 102, 3) := by decide +kernel
theorem dX8_worst_24 : decode cX8_worst 24 = .ok (.istore 4, 2) := by decide +kernel
theorem dX8_worst_26 : decode cX8_worst 26 = .ok (.iconst 0, 1) := by decide +kernel
theorem dX8_worst_27 : decode cX8_worst 27 = .ok (.istore 5, 2) := by decide +kernel
theorem dX8_worst_29 : decode cX8_worst 29 = .ok (.iconst (-1), 1) := by decide +kernel
theorem dX8_worst_30 : decode cX8_worst 30 = .ok (.istore 6, 2) := by decide +kernel
theorem dX8_worst_32 : decode cX8_worst 32 = .ok (.iconst 0, 1) := by decide +kernel
theorem dX8_worst_33 : decode cX8_worst 33 = .ok (.istore 7, 2) := by decide +kernel
theorem dX8_worst_35 : decode cX8_worst 35 = .ok (.iload 7, 2) := by decide +kernel
theorem dX8_worst_37 : decode cX8_worst 37 = .ok (.sipush 1000, 3) := by decide +kernel
theorem dX8_worst_40 : decode cX8_worst 40 = .ok (.if_icmp .gt 75, 3) := by decide +kernel
theorem dX8_worst_43 : decode cX8_worst 43 = .ok (.aload_n 0, 1) := by decide +kernel
theorem dX8_worst_44 : decode cX8_worst 44 = .ok (.iload 4, 2) := by decide +kernel
theorem dX8_worst_46 : decode cX8_worst 46 = .ok (.iload 7, 2) := by decide +kernel
theorem dX8_worst_48 : decode cX8_worst 48 = .ok (.invokevirtual 143, 3) := by decide +kernel
theorem dX8_worst_51 : decode cX8_worst 51 = .ok (.aload_n 0, 1) := by decide +kernel
theorem dX8_worst_52 : decode cX8_worst 52 = .ok (.iload 4, 2) := by decide +kernel
theorem dX8_worst_54 : decode cX8_worst 54 = .ok (.iload 7, 2) := by decide +kernel
theorem dX8_worst_56 : decode cX8_worst 56 = .ok (.invokevirtual 146, 3) := by decide +kernel
theorem dX8_worst_59 : decode cX8_worst 59 = .ok (.isub, 1) := by decide +kernel
theorem dX8_worst_60 : decode cX8_worst 60 = .ok (.istore 8, 2) := by decide +kernel
theorem dX8_worst_62 : decode cX8_worst 62 = .ok (.iload 8, 2) := by decide +kernel
theorem dX8_worst_64 : decode cX8_worst 64 = .ok (.ifCond .ge 9, 3) := by decide +kernel
theorem dX8_worst_67 : decode cX8_worst 67 = .ok (.iload 8, 2) := by decide +kernel
theorem dX8_worst_69 : decode cX8_worst 69 = .ok (.ineg, 1) := by decide +kernel
theorem dX8_worst_70 : decode cX8_worst 70 = .ok (.goto 5, 3) := by decide +kernel
theorem dX8_worst_73 : decode cX8_worst 73 = .ok (.iload 8, 2) := by decide +kernel
theorem dX8_worst_75 : decode cX8_worst 75 = .ok (.istore 8, 2) := by decide +kernel
theorem dX8_worst_77 : decode cX8_worst 77 = .ok (.iload 8, 2) := by decide +kernel
theorem dX8_worst_79 : decode cX8_worst 79 = .ok (.iload 6, 2) := by decide +kernel
theorem dX8_worst_81 : decode cX8_worst 81 = .ok (.if_icmp .le 8, 3) := by decide +kernel
theorem dX8_worst_84 : decode cX8_worst 84 = .ok (.iload 7, 2) := by decide +kernel
theorem dX8_worst_86 : decode cX8_worst 86 = .ok (.goto 5, 3) := by decide +kernel
theorem dX8_worst_89 : decode cX8_worst 89 = .ok (.iload 5, 2) := by decide +kernel
theorem dX8_worst_91 : decode cX8_worst 91 = .ok (.istore 5, 2) := by decide +kernel
theorem dX8_worst_93 : decode cX8_worst 93 = .ok (.iload 8, 2) := by decide +kernel
theorem dX8_worst_95 : decode cX8_worst 95 = .ok (.iload 6, 2) := by decide +kernel
theorem dX8_worst_97 : decode cX8_worst 97 = .ok (.if_icmp .le 8, 3) := by decide +kernel
theorem dX8_worst_100 : decode cX8_worst 100 = .ok (.iload 8, 2) := by decide +kernel
theorem dX8_worst_102 : decode cX8_worst 102 = .ok (.goto 5, 3) := by decide +kernel
theorem dX8_worst_105 : decode cX8_worst 105 = .ok (.iload 6, 2) := by decide +kernel
theorem dX8_worst_107 : decode cX8_worst 107 = .ok (.istore 6, 2) := by decide +kernel
theorem dX8_worst_109 : decode cX8_worst 109 = .ok (.iinc 7 100, 3) := by decide +kernel
theorem dX8_worst_112 : decode cX8_worst 112 = .ok (.goto (-77), 3) := by decide +kernel
theorem dX8_worst_115 : decode cX8_worst 115 = .ok (.iload_n 2, 1) := by decide +kernel
theorem dX8_worst_116 : decode cX8_worst 116 = .ok (.ifCond .ne 8, 3) := by decide +kernel
theorem dX8_worst_119 : decode cX8_worst 119 = .ok (.iload 5, 2) := by decide +kernel
theorem dX8_worst_121 : decode cX8_worst 121 = .ok (.goto 5, 3) := by decide +kernel
theorem dX8_worst_124 : decode cX8_worst 124 = .ok (.iload 6, 2) := by decide +kernel
theorem dX8_worst_126 : decode cX8_worst 126 = .ok (.ireturn, 1) := by decide +kernel
theorem dX8_rank_0 : decode cX8_rank 0 = .ok (.aload_n 0, 1) := by decide +kernel
theorem dX8_rank_1 : decode cX8_rank 1 = .ok (.iload_n 1, 1) := by decide +kernel
theorem dX8_rank_2 : decode cX8_rank 2 = .ok (.iload_n 2, 1) := by decide +kernel
theorem dX8_rank_3 : decode cX8_rank 3 = .ok (.sipush 9999, 3) := by decide +kernel
theorem dX8_rank_6 : decode cX8_rank 6 = .ok (.invokevirtual 137, 3) := by decide +kernel
theorem dX8_rank_9 : decode cX8_rank 9 = .ok (.istore_n 3, 1) := by decide +kernel
theorem dX8_rank_10 : decode cX8_rank 10 = .ok (.iload_n 3, 1) := by decide +kernel
theorem dX8_rank_11 : decode cX8_rank 11 = .ok (.ifCond .ge 5, 3) := by decide +kernel
theorem dX8_rank_14 : decode cX8_rank 14 = .ok (.iload_n 3, 1) := by decide +kernel
theorem dX8_rank_15 : decode cX8_rank 15 = .ok (.ireturn, 1) := by decide +kernel
theorem dX8_rank_16 : decode cX8_rank 16 = .ok (.aload_n 0, 1) := by decide +kernel
theorem dX8_rank_17 : decode cX8_rank 17 = .ok (.iload_n 1, 1) := by decide +kernel
theorem dX8_rank_18 : decode cX8_rank 18 = .ok (.invokevirtual 140, 3) := by decide +kernel
theorem dX8_rank_21 : decode cX8_rank 21 = .ok (.sipush 1000, 3) := by decide +kernel
theorem dX8_rank_24 : decode cX8_rank 24 = .ok (.istore 4, 2) := by decide +kernel
theorem dX8_rank_26 : decode cX8_rank 26 = .ok (.iload 4, 2) := by decide +kernel
theorem dX8_rank_28 : decode cX8_rank 28 = .ok (.ifCond .lt 24, 3) := by decide +kernel
theorem dX8_rank_31 : decode cX8_rank 31 = .ok (.aload_n 0, 1) := by decide +kernel
theorem dX8_rank_32 : decode cX8_rank 32 = .ok (.aload_n 0, 1) := by decide +kernel
theorem dX8_rank_33 : decode cX8_rank 33 = .ok (.iload_n 1, 1) := by decide +kernel
theorem dX8_rank_34 : decode cX8_rank 34 = .ok (.invokevirtual 102, 3) := by decide +kernel
theorem dX8_rank_37 : decode cX8_rank 37 = .ok (.iload 4, 2) := by decide +kernel
theorem dX8_rank_39 : decode cX8_rank 39 = .ok (.invokevirtual 143, 3) := by decide +kernel
theorem dX8_rank_42 : decode cX8_rank 42 = .ok (.iload_n 2, 1) := by decide +kernel
theorem dX8_rank_43 : decode cX8_rank 43 = .ok (.if_icmp .le 9, 3) := by decide +kernel
theorem dX8_rank_46 : decode cX8_rank 46 = .ok (.iinc 4 (-1), 3) := by decide +kernel
theorem dX8_rank_49 : decode cX8_rank 49 = .ok (.goto (-23), 3) := by decide +kernel
theorem dX8_rank_52 : decode cX8_rank 52 = .ok (.iload 4, 2) := by decide +kernel
theorem dX8_rank_54 : decode cX8_rank 54 = .ok (.ireturn, 1) := by decide +kernel
theorem dX8_width_0 : decode cX8_width 0 = .ok (.aload_n 0, 1) := by decide +kernel
theorem dX8_width_1 : decode cX8_width 1 = .ok (.iload_n 1, 1) := by decide +kernel
theorem dX8_width_2 : decode cX8_width 2 = .ok (.iload_n 2, 1) := by decide +kernel
theorem dX8_width_3 : decode cX8_width 3 = .ok (.sipush 1000, 3) := by decide +kernel
theorem dX8_width_6 : decode cX8_width 6 = .ok (.invokevirtual 137, 3) := by decide +kernel
theorem dX8_width_9 : decode cX8_width 9 = .ok (.istore_n 3, 1) := by decide +kernel
theorem dX8_width_10 : decode cX8_width 10 = .ok (.iload_n 3, 1) := by decide +kernel
theorem dX8_width_11 : decode cX8_width 11 = .ok (.ifCond .ge 5, 3) := by decide +kernel
theorem dX8_width_14 : decode cX8_width 14 = .ok (.iload_n 3, 1) := by decide +kernel
theorem dX8_width_15 : decode cX8_width 15 = .ok (.ireturn, 1) := by decide +kernel
theorem dX8_width_16 : decode cX8_width 16 = .ok (.aload_n 0, 1) := by decide +kernel
theorem dX8_width_17 : decode cX8_width 17 = .ok (.iload_n 1, 1) := by decide +kernel
theorem dX8_width_18 : decode cX8_width 18 = .ok (.invokevirtual 140, 3) := by decide +kernel
theorem dX8_width_21 : decode cX8_width 21 = .ok (.iload_n 2, 1) := by decide +kernel
theorem dX8_width_22 : decode cX8_width 22 = .ok (.aload_n 0, 1) := by decide +kernel
theorem dX8_width_23 : decode cX8_width 23 = .ok (.iload_n 1, 1) := by decide +kernel
theorem dX8_width_24 : decode cX8_width 24 = .ok (.invokevirtual 102, 3) := by decide +kernel
theorem dX8_width_27 : decode cX8_width 27 = .ok (.iconst 1, 1) := by decide +kernel
theorem dX8_width_28 : decode cX8_width 28 = .ok (.isub, 1) := by decide +kernel
theorem dX8_width_29 : decode cX8_width 29 = .ok (.imul, 1) := by decide +kernel
theorem dX8_width_30 : decode cX8_width 30 = .ok (.sipush 1000, 3) := by decide +kernel
theorem dX8_width_33 : decode cX8_width 33 = .ok (.idiv, 1) := by decide +kernel
theorem dX8_width_34 : decode cX8_width 34 = .ok (.istore 4, 2) := by decide +kernel
theorem dX8_width_36 : decode cX8_width 36 = .ok (.iconst 0, 1) := by decide +kernel
theorem dX8_width_37 : decode cX8_width 37 = .ok (.istore 5, 2) := by decide +kernel
theorem dX8_width_39 : decode cX8_width 39 = .ok (.aload_n 0, 1) := by decide +kernel
theorem dX8_width_40 : decode cX8_width 40 = .ok (.getfield 19, 3) := by decide +kernel
theorem dX8_width_43 : decode cX8_width 43 = .ok (.iconst 0, 1) := by decide +kernel
theorem dX8_width_44 : decode cX8_width 44 = .ok (.iaload, 1) := by decide +kernel
theorem dX8_width_45 : decode cX8_width 45 = .ok (.istore 6, 2) := by decide +kernel
theorem dX8_width_47 : decode cX8_width 47 = .ok (.iload 6, 2) := by decide +kernel
theorem dX8_width_49 : decode cX8_width 49 = .ok (.iload 4, 2) := by decide +kernel
theorem dX8_width_51 : decode cX8_width 51 = .ok (.if_icmp .gt 21, 3) := by decide +kernel
theorem dX8_width_54 : decode cX8_width 54 = .ok (.iinc 5 1, 3) := by decide +kernel
theorem dX8_width_57 : decode cX8_width 57 = .ok (.iload 6, 2) := by decide +kernel
theorem dX8_width_59 : decode cX8_width 59 = .ok (.aload_n 0, 1) := by decide +kernel
theorem dX8_width_60 : decode cX8_width 60 = .ok (.getfield 19, 3) := by decide +kernel
theorem dX8_width_63 : decode cX8_width 63 = .ok (.iload 5, 2) := by decide +kernel
theorem dX8_width_65 : decode cX8_width 65 = .ok (.iaload, 1) := by decide +kernel
theorem dX8_width_66 : decode cX8_width 66 = .ok (.iadd, 1) := by decide +kernel
theorem dX8_width_67 : decode cX8_width 67 = .ok (.istore 6, 2) := by decide +kernel
theorem dX8_width_69 : decode cX8_width 69 = .ok (.goto (-22), 3) := by decide +kernel
theorem dX8_width_72 : decode cX8_width 72 = .ok (.aload_n 0, 1) := by decide +kernel
theorem dX8_width_73 : decode cX8_width 73 = .ok (.getfield 28, 3) := by decide +kernel
theorem dX8_width_76 : decode cX8_width 76 = .ok (.iload 5, 2) := by decide +kernel
theorem dX8_width_78 : decode cX8_width 78 = .ok (.iaload, 1) := by decide +kernel
theorem dX8_width_79 : decode cX8_width 79 = .ok (.aload_n 0, 1) := by decide +kernel
theorem dX8_width_80 : decode cX8_width 80 = .ok (.getfield 25, 3) := by decide +kernel
theorem dX8_width_83 : decode cX8_width 83 = .ok (.iload 5, 2) := by decide +kernel
theorem dX8_width_85 : decode cX8_width 85 = .ok (.iaload, 1) := by decide +kernel
theorem dX8_width_86 : decode cX8_width 86 = .ok (.isub, 1) := by decide +kernel
theorem dX8_width_87 : decode cX8_width 87 = .ok (.ireturn, 1) := by decide +kernel
theorem dX8_heapsBy_0 : decode cX8_heapsBy 0 = .ok (.aload_n 0, 1) := by decide +kernel
theorem dX8_heapsBy_1 : decode cX8_heapsBy 1 = .ok (.iconst 0, 1) := by decide +kernel
theorem dX8_heapsBy_2 : decode cX8_heapsBy 2 = .ok (.putfield 53, 3) := by decide +kernel
theorem dX8_heapsBy_5 : decode cX8_heapsBy 5 = .ok (.aload_n 0, 1) := by decide +kernel
theorem dX8_heapsBy_6 : decode cX8_heapsBy 6 = .ok (.iload_n 1, 1) := by decide +kernel
theorem dX8_heapsBy_7 : decode cX8_heapsBy 7 = .ok (.invokevirtual 123, 3) := by decide +kernel
theorem dX8_heapsBy_10 : decode cX8_heapsBy 10 = .ok (.iconst 0, 1) := by decide +kernel
theorem dX8_heapsBy_11 : decode cX8_heapsBy 11 = .ok (.istore_n 3, 1) := by decide +kernel
theorem dX8_heapsBy_12 : decode cX8_heapsBy 12 = .ok (.iload_n 3, 1) := by decide +kernel
theorem dX8_heapsBy_13 : decode cX8_heapsBy 13 = .ok (.aload_n 0, 1) := by decide +kernel
theorem dX8_heapsBy_14 : decode cX8_heapsBy 14 = .ok (.iload_n 1, 1) := by decide +kernel
theorem dX8_heapsBy_15 : decode cX8_heapsBy 15 = .ok (.iconst 2, 1) := by decide +kernel
theorem dX8_heapsBy_16 : decode cX8_heapsBy 16 = .ok (.invokevirtual 49, 3) := by decide +kernel
theorem dX8_heapsBy_19 : decode cX8_heapsBy 19 = .ok (.if_icmp .ge 32, 3) := by decide +kernel
theorem dX8_heapsBy_22 : decode cX8_heapsBy 22 = .ok (.aload_n 0, 1) := by decide +kernel
theorem dX8_heapsBy_23 : decode cX8_heapsBy 23 = .ok (.iconst 1, 1) := by decide +kernel
theorem dX8_heapsBy_24 : decode cX8_heapsBy 24 = .ok (.aload_n 0, 1) := by decide +kernel
theorem dX8_heapsBy_25 : decode cX8_heapsBy 25 = .ok (.getfield 31, 3) := by decide +kernel
theorem dX8_heapsBy_28 : decode cX8_heapsBy 28 = .ok (.iload_n 3, 1) := by decide +kernel
theorem dX8_heapsBy_29 : decode cX8_heapsBy 29 = .ok (.iaload, 1) := by decide +kernel
theorem dX8_heapsBy_30 : decode cX8_heapsBy 30 = .ok (.aload_n 0, 1) := by decide +kernel
theorem dX8_heapsBy_31 : decode cX8_heapsBy 31 = .ok (.getfield 31, 3) := by decide +kernel
theorem dX8_heapsBy_34 : decode cX8_heapsBy 34 = .ok (.iload_n 3, 1) := by decide +kernel
theorem dX8_heapsBy_35 : decode cX8_heapsBy 35 = .ok (.iaload, 1) := by decide +kernel
theorem dX8_heapsBy_36 : decode cX8_heapsBy 36 = .ok (.aload_n 0, 1) := by decide +kernel
theorem dX8_heapsBy_37 : decode cX8_heapsBy 37 = .ok (.getfield 31, 3) := by decide +kernel
theorem dX8_heapsBy_40 : decode cX8_heapsBy 40 = .ok (.iload_n 3, 1) := by decide +kernel
theorem dX8_heapsBy_41 : decode cX8_heapsBy 41 = .ok (.iaload, 1) := by decide +kernel
theorem dX8_heapsBy_42 : decode cX8_heapsBy 42 = .ok (.invokevirtual 60, 3) := by decide +kernel
theorem dX8_heapsBy_45 : decode cX8_heapsBy 45 = .ok (.iinc 3 1, 3) := by decide +kernel
theorem dX8_heapsBy_48 : decode cX8_heapsBy 48 = .ok (.goto (-36), 3) := by decide +kernel
theorem dX8_heapsBy_51 : decode cX8_heapsBy 51 = .ok (.aload_n 0, 1) := by decide +kernel
theorem dX8_heapsBy_52 : decode cX8_heapsBy 52 = .ok (.iload_n 2, 1) := by decide +kernel
theorem dX8_heapsBy_53 : decode cX8_heapsBy 53 = .ok (.invokevirtual 78, 3) := by decide +kernel
theorem dX8_heapsBy_56 : decode cX8_heapsBy 56 = .ok (.aload_n 0, 1) := by decide +kernel
theorem dX8_heapsBy_57 : decode cX8_heapsBy 57 = .ok (.getfield 53, 3) := by decide +kernel
theorem dX8_heapsBy_60 : decode cX8_heapsBy 60 = .ok (.ireturn, 1) := by decide +kernel
theorem dX8_settingFor_0 : decode cX8_settingFor 0 = .ok (.iload_n 1, 1) := by decide +kernel
theorem dX8_settingFor_1 : decode cX8_settingFor 1 = .ok (.invokestatic 97, 3) := by decide +kernel
theorem dX8_settingFor_4 : decode cX8_settingFor 4 = .ok (.ifCond .eq 13, 3) := by decide +kernel
theorem dX8_settingFor_7 : decode cX8_settingFor 7 = .ok (.iload_n 2, 1) := by decide +kernel
theorem dX8_settingFor_8 : decode cX8_settingFor 8 = .ok (.iconst 1, 1) := by decide +kernel
theorem dX8_settingFor_9 : decode cX8_settingFor 9 = .ok (.bipush 60, 2) := by decide +kernel
theorem dX8_settingFor_11 : decode cX8_settingFor 11 = .ok (.invokestatic 45, 3) := by decide +kernel
theorem dX8_settingFor_14 : decode cX8_settingFor 14 = .ok (.ifCond .ne 6, 3) := by decide +kernel
theorem dX8_settingFor_17 : decode cX8_settingFor 17 = .ok (.ldc 101, 2) := by decide +kernel
theorem dX8_settingFor_19 : decode cX8_settingFor 19 = .ok (.ireturn, 1) := by decide +kernel
theorem dX8_settingFor_20 : decode cX8_settingFor 20 = .ok (.iconst 1, 1) := by decide +kernel
theorem dX8_settingFor_21 : decode cX8_settingFor 21 = .ok (.istore_n 3, 1) := by decide +kernel
theorem dX8_settingFor_22 : decode cX8_settingFor 22 = .ok (.iload_n 3, 1) := by decide +kernel
theorem dX8_settingFor_23 : decode cX8_settingFor 23 = .ok (.bipush 60, 2) := by decide +kernel
theorem dX8_settingFor_25 : decode cX8_settingFor 25 = .ok (.if_icmp .gt 21, 3) := by decide +kernel
theorem dX8_settingFor_28 : decode cX8_settingFor 28 = .ok (.aload_n 0, 1) := by decide +kernel
theorem dX8_settingFor_29 : decode cX8_settingFor 29 = .ok (.iload_n 1, 1) := by decide +kernel
theorem dX8_settingFor_30 : decode cX8_settingFor 30 = .ok (.iload_n 3, 1) := by decide +kernel
theorem dX8_settingFor_31 : decode cX8_settingFor 31 = .ok (.invokevirtual 149, 3) := by decide +kernel
theorem dX8_settingFor_34 : decode cX8_settingFor 34 = .ok (.iload_n 2, 1) := by decide +kernel
theorem dX8_settingFor_35 : decode cX8_settingFor 35 = .ok (.if_icmp .lt 5, 3) := by decide +kernel
theorem dX8_settingFor_38 : decode cX8_settingFor 38 = .ok (.iload_n 3, 1) := by decide +kernel
theorem dX8_settingFor_39 : decode cX8_settingFor 39 = .ok (.ireturn, 1) := by decide +kernel
theorem dX8_settingFor_40 : decode cX8_settingFor 40 = .ok (.iinc 3 1, 3) := by decide +kernel
theorem dX8_settingFor_43 : decode cX8_settingFor 43 = .ok (.goto (-21), 3) := by decide +kernel
theorem dX8_settingFor_46 : decode cX8_settingFor 46 = .ok (.ldc 116, 2) := by decide +kernel
theorem dX8_settingFor_48 : decode cX8_settingFor 48 = .ok (.ireturn, 1) := by decide +kernel
theorem dX8_allWeight_0 : decode cX8_allWeight 0 = .ok (.aload_n 0, 1) := by decide +kernel
theorem dX8_allWeight_1 : decode cX8_allWeight 1 = .ok (.iconst 0, 1) := by decide +kernel
theorem dX8_allWeight_2 : decode cX8_allWeight 2 = .ok (.invokevirtual 102, 3) := by decide +kernel
theorem dX8_allWeight_5 : decode cX8_allWeight 5 = .ok (.aload_n 0, 1) := by decide +kernel
theorem dX8_allWeight_6 : decode cX8_allWeight 6 = .ok (.iconst 1, 1) := by decide +kernel
theorem dX8_allWeight_7 : decode cX8_allWeight 7 = .ok (.invokevirtual 102, 3) := by decide +kernel
theorem dX8_allWeight_10 : decode cX8_allWeight 10 = .ok (.iadd, 1) := by decide +kernel
theorem dX8_allWeight_11 : decode cX8_allWeight 11 = .ok (.aload_n 0, 1) := by decide +kernel
theorem dX8_allWeight_12 : decode cX8_allWeight 12 = .ok (.iconst 2, 1) := by decide +kernel
theorem dX8_allWeight_13 : decode cX8_allWeight 13 = .ok (.invokevirtual 102, 3) := by decide +kernel
theorem dX8_allWeight_16 : decode cX8_allWeight 16 = .ok (.iadd, 1) := by decide +kernel
theorem dX8_allWeight_17 : decode cX8_allWeight 17 = .ok (.ireturn, 1) := by decide +kernel
theorem dX8_count_0 : decode cX8_count 0 = .ok (.iload_n 1, 1) := by decide +kernel
theorem dX8_count_1 : decode cX8_count 1 = .ok (.lookupswitch 105 #[(0, 59), (1, 64), (2, 85), (3, 90), (20, 95), (21, 95)], 59) := by decide +kernel
theorem dX8_count_60 : decode cX8_count 60 = .ok (.aload_n 0, 1) := by decide +kernel
theorem dX8_count_61 : decode cX8_count 61 = .ok (.invokevirtual 152, 3) := by decide +kernel
theorem dX8_count_64 : decode cX8_count 64 = .ok (.ireturn, 1) := by decide +kernel
theorem dX8_count_65 : decode cX8_count 65 = .ok (.aload_n 0, 1) := by decide +kernel
theorem dX8_count_66 : decode cX8_count 66 = .ok (.iconst 0, 1) := by decide +kernel
theorem dX8_count_67 : decode cX8_count 67 = .ok (.iconst 0, 1) := by decide +kernel
theorem dX8_count_68 : decode cX8_count 68 = .ok (.invokevirtual 49, 3) := by decide +kernel
theorem dX8_count_71 : decode cX8_count 71 = .ok (.aload_n 0, 1) := by decide +kernel
theorem dX8_count_72 : decode cX8_count 72 = .ok (.iconst 1, 1) := by decide +kernel
theorem dX8_count_73 : decode cX8_count 73 = .ok (.iconst 0, 1) := by decide +kernel
theorem dX8_count_74 : decode cX8_count 74 = .ok (.invokevirtual 49, 3) := by decide +kernel
theorem dX8_count_77 : decode cX8_count 77 = .ok (.iadd, 1) := by decide +kernel
theorem dX8_count_78 : decode cX8_count 78 = .ok (.aload_n 0, 1) := by decide +kernel
theorem dX8_count_79 : decode cX8_count 79 = .ok (.iconst 2, 1) := by decide +kernel
theorem dX8_count_80 : decode cX8_count 80 = .ok (.iconst 0, 1) := by decide +kernel
theorem dX8_count_81 : decode cX8_count 81 = .ok (.invokevirtual 49, 3) := by decide +kernel
theorem dX8_count_84 : decode cX8_count 84 = .ok (.iadd, 1) := by decide +kernel
theorem dX8_count_85 : decode cX8_count 85 = .ok (.ireturn, 1) := by decide +kernel
theorem dX8_count_86 : decode cX8_count 86 = .ok (.aload_n 0, 1) := by decide +kernel
theorem dX8_count_87 : decode cX8_count 87 = .ok (.getfield 37, 3) := by decide +kernel
theorem dX8_count_90 : decode cX8_count 90 = .ok (.ireturn, 1) := by decide +kernel
theorem dX8_count_91 : decode cX8_count 91 = .ok (.aload_n 0, 1) := by decide +kernel
theorem dX8_count_92 : decode cX8_count 92 = .ok (.getfield 156, 3) := by decide +kernel
theorem dX8_count_95 : decode cX8_count 95 = .ok (.ireturn, 1) := by decide +kernel
theorem dX8_count_96 : decode cX8_count 96 = .ok (.aload_n 0, 1) := by decide +kernel
theorem dX8_count_97 : decode cX8_count 97 = .ok (.getfield 7, 3) := by decide +kernel
theorem dX8_count_100 : decode cX8_count 100 = .ok (.iload_n 1, 1) := by decide +kernel
theorem dX8_count_101 : decode cX8_count 101 = .ok (.bipush 20, 2) := by decide +kernel
theorem dX8_count_103 : decode cX8_count 103 = .ok (.isub, 1) := by decide +kernel
theorem dX8_count_104 : decode cX8_count 104 = .ok (.iaload, 1) := by decide +kernel
theorem dX8_count_105 : decode cX8_count 105 = .ok (.ireturn, 1) := by decide +kernel
theorem dX8_count_106 : decode cX8_count 106 = .ok (.ldc 101, 2) := by decide +kernel
theorem dX8_count_108 : decode cX8_count 108 = .ok (.ireturn, 1) := by decide +kernel
theorem dX8_undo_0 : decode cX8_undo 0 = .ok (.aload_n 0, 1) := by decide +kernel
theorem dX8_undo_1 : decode cX8_undo 1 = .ok (.getfield 37, 3) := by decide +kernel
theorem dX8_undo_4 : decode cX8_undo 4 = .ok (.ifCond .ne 6, 3) := by decide +kernel
theorem dX8_undo_7 : decode cX8_undo 7 = .ok (.ldc 136, 2) := by decide +kernel
theorem dX8_undo_9 : decode cX8_undo 9 = .ok (.ireturn, 1) := by decide +kernel
theorem dX8_undo_10 : decode cX8_undo 10 = .ok (.aload_n 0, 1) := by decide +kernel
theorem dX8_undo_11 : decode cX8_undo 11 = .ok (.dup, 1) := by decide +kernel
theorem dX8_undo_12 : decode cX8_undo 12 = .ok (.getfield 37, 3) := by decide +kernel
theorem dX8_undo_15 : decode cX8_undo 15 = .ok (.iconst 1, 1) := by decide +kernel
theorem dX8_undo_16 : decode cX8_undo 16 = .ok (.isub, 1) := by decide +kernel
theorem dX8_undo_17 : decode cX8_undo 17 = .ok (.putfield 37, 3) := by decide +kernel
theorem dX8_undo_20 : decode cX8_undo 20 = .ok (.aload_n 0, 1) := by decide +kernel
theorem dX8_undo_21 : decode cX8_undo 21 = .ok (.getfield 13, 3) := by decide +kernel
theorem dX8_undo_24 : decode cX8_undo 24 = .ok (.aload_n 0, 1) := by decide +kernel
theorem dX8_undo_25 : decode cX8_undo 25 = .ok (.getfield 37, 3) := by decide +kernel
theorem dX8_undo_28 : decode cX8_undo 28 = .ok (.sipush 3074, 3) := by decide +kernel
theorem dX8_undo_31 : decode cX8_undo 31 = .ok (.imul, 1) := by decide +kernel
theorem dX8_undo_32 : decode cX8_undo 32 = .ok (.aload_n 0, 1) := by decide +kernel
theorem dX8_undo_33 : decode cX8_undo 33 = .ok (.getfield 7, 3) := by decide +kernel
theorem dX8_undo_36 : decode cX8_undo 36 = .ok (.iconst 0, 1) := by decide +kernel
theorem dX8_undo_37 : decode cX8_undo 37 = .ok (.invokestatic 41, 3) := by decide +kernel
theorem dX8_undo_40 : decode cX8_undo 40 = .ok (.aload_n 0, 1) := by decide +kernel
theorem dX8_undo_41 : decode cX8_undo 41 = .ok (.getfield 37, 3) := by decide +kernel
theorem dX8_undo_44 : decode cX8_undo 44 = .ok (.ireturn, 1) := by decide +kernel
theorem dX8_type_0 : decode cX8_type 0 = .ok (.iload_n 1, 1) := by decide +kernel
theorem dX8_type_1 : decode cX8_type 1 = .ok (.bipush 32, 2) := by decide +kernel
theorem dX8_type_3 : decode cX8_type 3 = .ok (.bipush 126, 2) := by decide +kernel
theorem dX8_type_5 : decode cX8_type 5 = .ok (.invokestatic 45, 3) := by decide +kernel
theorem dX8_type_8 : decode cX8_type 8 = .ok (.ifCond .ne 6, 3) := by decide +kernel
theorem dX8_type_11 : decode cX8_type 11 = .ok (.ldc 101, 2) := by decide +kernel
theorem dX8_type_13 : decode cX8_type 13 = .ok (.ireturn, 1) := by decide +kernel
theorem dX8_type_14 : decode cX8_type 14 = .ok (.aload_n 0, 1) := by decide +kernel
theorem dX8_type_15 : decode cX8_type 15 = .ok (.getfield 156, 3) := by decide +kernel
theorem dX8_type_18 : decode cX8_type 18 = .ok (.bipush 60, 2) := by decide +kernel
theorem dX8_type_20 : decode cX8_type 20 = .ok (.if_icmp .ne 6, 3) := by decide +kernel
theorem dX8_type_23 : decode cX8_type 23 = .ok (.ldc 106, 2) := by decide +kernel
theorem dX8_type_25 : decode cX8_type 25 = .ok (.ireturn, 1) := by decide +kernel
theorem dX8_type_26 : decode cX8_type 26 = .ok (.aload_n 0, 1) := by decide +kernel
theorem dX8_type_27 : decode cX8_type 27 = .ok (.getfield 16, 3) := by decide +kernel
theorem dX8_type_30 : decode cX8_type 30 = .ok (.aload_n 0, 1) := by decide +kernel
theorem dX8_type_31 : decode cX8_type 31 = .ok (.getfield 156, 3) := by decide +kernel
theorem dX8_type_34 : decode cX8_type 34 = .ok (.iload_n 1, 1) := by decide +kernel
theorem dX8_type_35 : decode cX8_type 35 = .ok (.iastore, 1) := by decide +kernel
theorem dX8_type_36 : decode cX8_type 36 = .ok (.aload_n 0, 1) := by decide +kernel
theorem dX8_type_37 : decode cX8_type 37 = .ok (.dup, 1) := by decide +kernel
theorem dX8_type_38 : decode cX8_type 38 = .ok (.getfield 156, 3) := by decide +kernel
theorem dX8_type_41 : decode cX8_type 41 = .ok (.iconst 1, 1) := by decide +kernel
theorem dX8_type_42 : decode cX8_type 42 = .ok (.iadd, 1) := by decide +kernel
theorem dX8_type_43 : decode cX8_type 43 = .ok (.putfield 156, 3) := by decide +kernel
theorem dX8_type_46 : decode cX8_type 46 = .ok (.aload_n 0, 1) := by decide +kernel
theorem dX8_type_47 : decode cX8_type 47 = .ok (.getfield 156, 3) := by decide +kernel
theorem dX8_type_50 : decode cX8_type 50 = .ok (.ireturn, 1) := by decide +kernel
theorem dX8_clearText_0 : decode cX8_clearText 0 = .ok (.aload_n 0, 1) := by decide +kernel
theorem dX8_clearText_1 : decode cX8_clearText 1 = .ok (.getfield 156, 3) := by decide +kernel
theorem dX8_clearText_4 : decode cX8_clearText 4 = .ok (.istore_n 1, 1) := by decide +kernel
theorem dX8_clearText_5 : decode cX8_clearText 5 = .ok (.aload_n 0, 1) := by decide +kernel
theorem dX8_clearText_6 : decode cX8_clearText 6 = .ok (.iconst 0, 1) := by decide +kernel
theorem dX8_clearText_7 : decode cX8_clearText 7 = .ok (.putfield 156, 3) := by decide +kernel
theorem dX8_clearText_10 : decode cX8_clearText 10 = .ok (.iload_n 1, 1) := by decide +kernel
theorem dX8_clearText_11 : decode cX8_clearText 11 = .ok (.ireturn, 1) := by decide +kernel
theorem dX8_character_0 : decode cX8_character 0 = .ok (.iload_n 1, 1) := by decide +kernel
theorem dX8_character_1 : decode cX8_character 1 = .ok (.aload_n 0, 1) := by decide +kernel
theorem dX8_character_2 : decode cX8_character 2 = .ok (.getfield 156, 3) := by decide +kernel
theorem dX8_character_5 : decode cX8_character 5 = .ok (.if_icmp .ge 12, 3) := by decide +kernel
theorem dX8_character_8 : decode cX8_character 8 = .ok (.aload_n 0, 1) := by decide +kernel
theorem dX8_character_9 : decode cX8_character 9 = .ok (.getfield 16, 3) := by decide +kernel
theorem dX8_character_12 : decode cX8_character 12 = .ok (.iload_n 1, 1) := by decide +kernel
theorem dX8_character_13 : decode cX8_character 13 = .ok (.iaload, 1) := by decide +kernel
theorem dX8_character_14 : decode cX8_character 14 = .ok (.goto 4, 3) := by decide +kernel
theorem dX8_character_17 : decode cX8_character 17 = .ok (.iconst (-1), 1) := by decide +kernel
theorem dX8_character_18 : decode cX8_character 18 = .ok (.ireturn, 1) := by decide +kernel
theorem dX8_takeNumber_0 : decode cX8_takeNumber 0 = .ok (.iconst (-1), 1) := by decide +kernel
theorem dX8_takeNumber_1 : decode cX8_takeNumber 1 = .ok (.istore_n 2, 1) := by decide +kernel
theorem dX8_takeNumber_2 : decode cX8_takeNumber 2 = .ok (.iconst 0, 1) := by decide +kernel
theorem dX8_takeNumber_3 : decode cX8_takeNumber 3 = .ok (.istore_n 3, 1) := by decide +kernel
theorem dX8_takeNumber_4 : decode cX8_takeNumber 4 = .ok (.iload_n 3, 1) := by decide +kernel
theorem dX8_takeNumber_5 : decode cX8_takeNumber 5 = .ok (.iload_n 1, 1) := by decide +kernel
theorem dX8_takeNumber_6 : decode cX8_takeNumber 6 = .ok (.if_icmp .ge 62, 3) := by decide +kernel
theorem dX8_takeNumber_9 : decode cX8_takeNumber 9 = .ok (.aload_n 0, 1) := by decide +kernel
theorem dX8_takeNumber_10 : decode cX8_takeNumber 10 = .ok (.aload_n 0, 1) := by decide +kernel
theorem dX8_takeNumber_11 : decode cX8_takeNumber 11 = .ok (.getfield 159, 3) := by decide +kernel
theorem dX8_takeNumber_14 : decode cX8_takeNumber 14 = .ok (.invokevirtual 162, 3) := by decide +kernel
theorem dX8_takeNumber_17 : decode cX8_takeNumber 17 = .ok (.bipush 48, 2) := by decide +kernel
theorem dX8_takeNumber_19 : decode cX8_takeNumber 19 = .ok (.bipush 57, 2) := by decide +kernel
theorem dX8_takeNumber_21 : decode cX8_takeNumber 21 = .ok (.invokestatic 45, 3) := by decide +kernel
theorem dX8_takeNumber_24 : decode cX8_takeNumber 24 = .ok (.ifCond .eq 44, 3) := by decide +kernel
theorem dX8_takeNumber_27 : decode cX8_takeNumber 27 = .ok (.iload_n 2, 1) := by decide +kernel
theorem dX8_takeNumber_28 : decode cX8_takeNumber 28 = .ok (.ifCond .ge 7, 3) := by decide +kernel
theorem dX8_takeNumber_31 : decode cX8_takeNumber 31 = .ok (.iconst 0, 1) := by decide +kernel
end
section
theorem dX8_takeNumber_32 : decode cX8_takeNumber 32 = .ok (.goto 7, 3) := by decide +kernel
theorem dX8_takeNumber_35 : decode cX8_takeNumber 35 = .ok (.bipush 10, 2) := by decide +kernel
theorem dX8_takeNumber_37 : decode cX8_takeNumber 37 = .ok (.iload_n 2, 1) := by decide +kernel
theorem dX8_takeNumber_38 : decode cX8_takeNumber 38 = .ok (.imul, 1) := by decide +kernel
theorem dX8_takeNumber_39 : decode cX8_takeNumber 39 = .ok (.aload_n 0, 1) := by decide +kernel
theorem dX8_takeNumber_40 : decode cX8_takeNumber 40 = .ok (.aload_n 0, 1) := by decide +kernel
theorem dX8_takeNumber_41 : decode cX8_takeNumber 41 = .ok (.getfield 159, 3) := by decide +kernel
theorem dX8_takeNumber_44 : decode cX8_takeNumber 44 = .ok (.invokevirtual 162, 3) := by decide +kernel
theorem dX8_takeNumber_47 : decode cX8_takeNumber 47 = .ok (.iadd, 1) := by decide +kernel
theorem dX8_takeNumber_48 : decode cX8_takeNumber 48 = .ok (.bipush 48, 2) := by decide +kernel
theorem dX8_takeNumber_50 : decode cX8_takeNumber 50 = .ok (.isub, 1) := by decide +kernel
theorem dX8_takeNumber_51 : decode cX8_takeNumber 51 = .ok (.istore_n 2, 1) := by decide +kernel
theorem dX8_takeNumber_52 : decode cX8_takeNumber 52 = .ok (.aload_n 0, 1) := by decide +kernel
theorem dX8_takeNumber_53 : decode cX8_takeNumber 53 = .ok (.dup, 1) := by decide +kernel
theorem dX8_takeNumber_54 : decode cX8_takeNumber 54 = .ok (.getfield 159, 3) := by decide +kernel
theorem dX8_takeNumber_57 : decode cX8_takeNumber 57 = .ok (.iconst 1, 1) := by decide +kernel
theorem dX8_takeNumber_58 : decode cX8_takeNumber 58 = .ok (.iadd, 1) := by decide +kernel
theorem dX8_takeNumber_59 : decode cX8_takeNumber 59 = .ok (.putfield 159, 3) := by decide +kernel
theorem dX8_takeNumber_62 : decode cX8_takeNumber 62 = .ok (.iinc 3 1, 3) := by decide +kernel
theorem dX8_takeNumber_65 : decode cX8_takeNumber 65 = .ok (.goto (-61), 3) := by decide +kernel
theorem dX8_takeNumber_68 : decode cX8_takeNumber 68 = .ok (.iload_n 2, 1) := by decide +kernel
theorem dX8_takeNumber_69 : decode cX8_takeNumber 69 = .ok (.ireturn, 1) := by decide +kernel
theorem dX8_takes_0 : decode cX8_takes 0 = .ok (.aload_n 0, 1) := by decide +kernel
theorem dX8_takes_1 : decode cX8_takes 1 = .ok (.aload_n 0, 1) := by decide +kernel
theorem dX8_takes_2 : decode cX8_takes 2 = .ok (.getfield 159, 3) := by decide +kernel
theorem dX8_takes_5 : decode cX8_takes 5 = .ok (.invokevirtual 162, 3) := by decide +kernel
theorem dX8_takes_8 : decode cX8_takes 8 = .ok (.iload_n 1, 1) := by decide +kernel
theorem dX8_takes_9 : decode cX8_takes 9 = .ok (.if_icmp .ne 7, 3) := by decide +kernel
theorem dX8_takes_12 : decode cX8_takes 12 = .ok (.iconst 1, 1) := by decide +kernel
theorem dX8_takes_13 : decode cX8_takes 13 = .ok (.goto 4, 3) := by decide +kernel
theorem dX8_takes_16 : decode cX8_takes 16 = .ok (.iconst 0, 1) := by decide +kernel
theorem dX8_takes_17 : decode cX8_takes 17 = .ok (.istore_n 2, 1) := by decide +kernel
theorem dX8_takes_18 : decode cX8_takes 18 = .ok (.aload_n 0, 1) := by decide +kernel
theorem dX8_takes_19 : decode cX8_takes 19 = .ok (.dup, 1) := by decide +kernel
theorem dX8_takes_20 : decode cX8_takes 20 = .ok (.getfield 159, 3) := by decide +kernel
theorem dX8_takes_23 : decode cX8_takes 23 = .ok (.iload_n 2, 1) := by decide +kernel
theorem dX8_takes_24 : decode cX8_takes 24 = .ok (.ifCond .eq 7, 3) := by decide +kernel
theorem dX8_takes_27 : decode cX8_takes 27 = .ok (.iconst 1, 1) := by decide +kernel
theorem dX8_takes_28 : decode cX8_takes 28 = .ok (.goto 4, 3) := by decide +kernel
theorem dX8_takes_31 : decode cX8_takes 31 = .ok (.iconst 0, 1) := by decide +kernel
theorem dX8_takes_32 : decode cX8_takes 32 = .ok (.iadd, 1) := by decide +kernel
theorem dX8_takes_33 : decode cX8_takes 33 = .ok (.putfield 159, 3) := by decide +kernel
theorem dX8_takes_36 : decode cX8_takes 36 = .ok (.iload_n 2, 1) := by decide +kernel
theorem dX8_takes_37 : decode cX8_takes 37 = .ok (.ireturn, 1) := by decide +kernel
theorem dX8_readsPart_0 : decode cX8_readsPart 0 = .ok (.aload_n 0, 1) := by decide +kernel
theorem dX8_readsPart_1 : decode cX8_readsPart 1 = .ok (.iconst 1, 1) := by decide +kernel
theorem dX8_readsPart_2 : decode cX8_readsPart 2 = .ok (.invokevirtual 165, 3) := by decide +kernel
theorem dX8_readsPart_5 : decode cX8_readsPart 5 = .ok (.istore_n 2, 1) := by decide +kernel
theorem dX8_readsPart_6 : decode cX8_readsPart 6 = .ok (.iload_n 2, 1) := by decide +kernel
theorem dX8_readsPart_7 : decode cX8_readsPart 7 = .ok (.ifCond .lt 16, 3) := by decide +kernel
theorem dX8_readsPart_10 : decode cX8_readsPart 10 = .ok (.aload_n 0, 1) := by decide +kernel
theorem dX8_readsPart_11 : decode cX8_readsPart 11 = .ok (.bipush 58, 2) := by decide +kernel
theorem dX8_readsPart_13 : decode cX8_readsPart 13 = .ok (.invokevirtual 168, 3) := by decide +kernel
theorem dX8_readsPart_16 : decode cX8_readsPart 16 = .ok (.ifCond .eq 7, 3) := by decide +kernel
theorem dX8_readsPart_19 : decode cX8_readsPart 19 = .ok (.iconst 1, 1) := by decide +kernel
theorem dX8_readsPart_20 : decode cX8_readsPart 20 = .ok (.goto 4, 3) := by decide +kernel
theorem dX8_readsPart_23 : decode cX8_readsPart 23 = .ok (.iconst 0, 1) := by decide +kernel
theorem dX8_readsPart_24 : decode cX8_readsPart 24 = .ok (.istore_n 3, 1) := by decide +kernel
theorem dX8_readsPart_25 : decode cX8_readsPart 25 = .ok (.iload_n 3, 1) := by decide +kernel
theorem dX8_readsPart_26 : decode cX8_readsPart 26 = .ok (.istore 4, 2) := by decide +kernel
theorem dX8_readsPart_28 : decode cX8_readsPart 28 = .ok (.iload 4, 2) := by decide +kernel
theorem dX8_readsPart_30 : decode cX8_readsPart 30 = .ok (.ifCond .eq 80, 3) := by decide +kernel
theorem dX8_readsPart_33 : decode cX8_readsPart 33 = .ok (.aload_n 0, 1) := by decide +kernel
theorem dX8_readsPart_34 : decode cX8_readsPart 34 = .ok (.iconst 4, 1) := by decide +kernel
theorem dX8_readsPart_35 : decode cX8_readsPart 35 = .ok (.invokevirtual 165, 3) := by decide +kernel
theorem dX8_readsPart_38 : decode cX8_readsPart 38 = .ok (.istore 5, 2) := by decide +kernel
theorem dX8_readsPart_40 : decode cX8_readsPart 40 = .ok (.iload 5, 2) := by decide +kernel
theorem dX8_readsPart_42 : decode cX8_readsPart 42 = .ok (.ifCond .lt 7, 3) := by decide +kernel
theorem dX8_readsPart_45 : decode cX8_readsPart 45 = .ok (.iconst 1, 1) := by decide +kernel
theorem dX8_readsPart_46 : decode cX8_readsPart 46 = .ok (.goto 4, 3) := by decide +kernel
theorem dX8_readsPart_49 : decode cX8_readsPart 49 = .ok (.iconst 0, 1) := by decide +kernel
theorem dX8_readsPart_50 : decode cX8_readsPart 50 = .ok (.istore_n 3, 1) := by decide +kernel
theorem dX8_readsPart_51 : decode cX8_readsPart 51 = .ok (.iload_n 3, 1) := by decide +kernel
theorem dX8_readsPart_52 : decode cX8_readsPart 52 = .ok (.ifCond .eq 20, 3) := by decide +kernel
theorem dX8_readsPart_55 : decode cX8_readsPart 55 = .ok (.iload_n 2, 1) := by decide +kernel
theorem dX8_readsPart_56 : decode cX8_readsPart 56 = .ok (.invokestatic 97, 3) := by decide +kernel
theorem dX8_readsPart_59 : decode cX8_readsPart 59 = .ok (.ifCond .eq 13, 3) := by decide +kernel
theorem dX8_readsPart_62 : decode cX8_readsPart 62 = .ok (.aload_n 0, 1) := by decide +kernel
theorem dX8_readsPart_63 : decode cX8_readsPart 63 = .ok (.getfield 34, 3) := by decide +kernel
theorem dX8_readsPart_66 : decode cX8_readsPart 66 = .ok (.iload_n 2, 1) := by decide +kernel
theorem dX8_readsPart_67 : decode cX8_readsPart 67 = .ok (.dup2, 1) := by decide +kernel
theorem dX8_readsPart_68 : decode cX8_readsPart 68 = .ok (.iaload, 1) := by decide +kernel
theorem dX8_readsPart_69 : decode cX8_readsPart 69 = .ok (.iconst 1, 1) := by decide +kernel
theorem dX8_readsPart_70 : decode cX8_readsPart 70 = .ok (.iadd, 1) := by decide +kernel
theorem dX8_readsPart_71 : decode cX8_readsPart 71 = .ok (.iastore, 1) := by decide +kernel
theorem dX8_readsPart_72 : decode cX8_readsPart 72 = .ok (.iload_n 3, 1) := by decide +kernel
theorem dX8_readsPart_73 : decode cX8_readsPart 73 = .ok (.ifCond .eq 14, 3) := by decide +kernel
theorem dX8_readsPart_76 : decode cX8_readsPart 76 = .ok (.iload_n 1, 1) := by decide +kernel
theorem dX8_readsPart_77 : decode cX8_readsPart 77 = .ok (.ifCond .eq 10, 3) := by decide +kernel
theorem dX8_readsPart_80 : decode cX8_readsPart 80 = .ok (.aload_n 0, 1) := by decide +kernel
theorem dX8_readsPart_81 : decode cX8_readsPart 81 = .ok (.iload_n 2, 1) := by decide +kernel
theorem dX8_readsPart_82 : decode cX8_readsPart 82 = .ok (.iload 5, 2) := by decide +kernel
theorem dX8_readsPart_84 : decode cX8_readsPart 84 = .ok (.invokevirtual 110, 3) := by decide +kernel
theorem dX8_readsPart_87 : decode cX8_readsPart 87 = .ok (.iload_n 3, 1) := by decide +kernel
theorem dX8_readsPart_88 : decode cX8_readsPart 88 = .ok (.ifCond .eq 16, 3) := by decide +kernel
theorem dX8_readsPart_91 : decode cX8_readsPart 91 = .ok (.aload_n 0, 1) := by decide +kernel
theorem dX8_readsPart_92 : decode cX8_readsPart 92 = .ok (.bipush 44, 2) := by decide +kernel
theorem dX8_readsPart_94 : decode cX8_readsPart 94 = .ok (.invokevirtual 168, 3) := by decide +kernel
theorem dX8_readsPart_97 : decode cX8_readsPart 97 = .ok (.ifCond .eq 7, 3) := by decide +kernel
theorem dX8_readsPart_100 : decode cX8_readsPart 100 = .ok (.iconst 1, 1) := by decide +kernel
theorem dX8_readsPart_101 : decode cX8_readsPart 101 = .ok (.goto 4, 3) := by decide +kernel
theorem dX8_readsPart_104 : decode cX8_readsPart 104 = .ok (.iconst 0, 1) := by decide +kernel
theorem dX8_readsPart_105 : decode cX8_readsPart 105 = .ok (.istore 4, 2) := by decide +kernel
theorem dX8_readsPart_107 : decode cX8_readsPart 107 = .ok (.goto (-79), 3) := by decide +kernel
theorem dX8_readsPart_110 : decode cX8_readsPart 110 = .ok (.iload_n 3, 1) := by decide +kernel
theorem dX8_readsPart_111 : decode cX8_readsPart 111 = .ok (.ifCond .eq 16, 3) := by decide +kernel
theorem dX8_readsPart_114 : decode cX8_readsPart 114 = .ok (.aload_n 0, 1) := by decide +kernel
theorem dX8_readsPart_115 : decode cX8_readsPart 115 = .ok (.bipush 59, 2) := by decide +kernel
theorem dX8_readsPart_117 : decode cX8_readsPart 117 = .ok (.invokevirtual 168, 3) := by decide +kernel
theorem dX8_readsPart_120 : decode cX8_readsPart 120 = .ok (.ifCond .eq 7, 3) := by decide +kernel
theorem dX8_readsPart_123 : decode cX8_readsPart 123 = .ok (.iload_n 2, 1) := by decide +kernel
theorem dX8_readsPart_124 : decode cX8_readsPart 124 = .ok (.goto 4, 3) := by decide +kernel
theorem dX8_readsPart_127 : decode cX8_readsPart 127 = .ok (.iconst (-1), 1) := by decide +kernel
theorem dX8_readsPart_128 : decode cX8_readsPart 128 = .ok (.ireturn, 1) := by decide +kernel
theorem dX8_findFault_0 : decode cX8_findFault 0 = .ok (.aload_n 0, 1) := by decide +kernel
theorem dX8_findFault_1 : decode cX8_findFault 1 = .ok (.iconst 0, 1) := by decide +kernel
theorem dX8_findFault_2 : decode cX8_findFault 2 = .ok (.putfield 159, 3) := by decide +kernel
theorem dX8_findFault_5 : decode cX8_findFault 5 = .ok (.iconst 0, 1) := by decide +kernel
theorem dX8_findFault_6 : decode cX8_findFault 6 = .ok (.istore_n 1, 1) := by decide +kernel
theorem dX8_findFault_7 : decode cX8_findFault 7 = .ok (.iload_n 1, 1) := by decide +kernel
theorem dX8_findFault_8 : decode cX8_findFault 8 = .ok (.iconst 3, 1) := by decide +kernel
theorem dX8_findFault_9 : decode cX8_findFault 9 = .ok (.if_icmp .ge 20, 3) := by decide +kernel
theorem dX8_findFault_12 : decode cX8_findFault 12 = .ok (.aload_n 0, 1) := by decide +kernel
theorem dX8_findFault_13 : decode cX8_findFault 13 = .ok (.getfield 34, 3) := by decide +kernel
theorem dX8_findFault_16 : decode cX8_findFault 16 = .ok (.iload_n 1, 1) := by decide +kernel
theorem dX8_findFault_17 : decode cX8_findFault 17 = .ok (.aload_n 0, 1) := by decide +kernel
theorem dX8_findFault_18 : decode cX8_findFault 18 = .ok (.iload_n 1, 1) := by decide +kernel
theorem dX8_findFault_19 : decode cX8_findFault 19 = .ok (.invokevirtual 102, 3) := by decide +kernel
theorem dX8_findFault_22 : decode cX8_findFault 22 = .ok (.iastore, 1) := by decide +kernel
theorem dX8_findFault_23 : decode cX8_findFault 23 = .ok (.iinc 1 1, 3) := by decide +kernel
theorem dX8_findFault_26 : decode cX8_findFault 26 = .ok (.goto (-19), 3) := by decide +kernel
theorem dX8_findFault_29 : decode cX8_findFault 29 = .ok (.aload_n 0, 1) := by decide +kernel
theorem dX8_findFault_30 : decode cX8_findFault 30 = .ok (.getfield 159, 3) := by decide +kernel
theorem dX8_findFault_33 : decode cX8_findFault 33 = .ok (.aload_n 0, 1) := by decide +kernel
theorem dX8_findFault_34 : decode cX8_findFault 34 = .ok (.getfield 156, 3) := by decide +kernel
theorem dX8_findFault_37 : decode cX8_findFault 37 = .ok (.if_icmp .ge 85, 3) := by decide +kernel
theorem dX8_findFault_40 : decode cX8_findFault 40 = .ok (.aload_n 0, 1) := by decide +kernel
theorem dX8_findFault_41 : decode cX8_findFault 41 = .ok (.getfield 159, 3) := by decide +kernel
theorem dX8_findFault_44 : decode cX8_findFault 44 = .ok (.istore_n 1, 1) := by decide +kernel
theorem dX8_findFault_45 : decode cX8_findFault 45 = .ok (.aload_n 0, 1) := by decide +kernel
theorem dX8_findFault_46 : decode cX8_findFault 46 = .ok (.iconst 0, 1) := by decide +kernel
theorem dX8_findFault_47 : decode cX8_findFault 47 = .ok (.invokevirtual 171, 3) := by decide +kernel
theorem dX8_findFault_50 : decode cX8_findFault 50 = .ok (.istore_n 2, 1) := by decide +kernel
theorem dX8_findFault_51 : decode cX8_findFault 51 = .ok (.aload_n 0, 1) := by decide +kernel
theorem dX8_findFault_52 : decode cX8_findFault 52 = .ok (.iload_n 2, 1) := by decide +kernel
theorem dX8_findFault_53 : decode cX8_findFault 53 = .ok (.ifCond .ge 12, 3) := by decide +kernel
theorem dX8_findFault_56 : decode cX8_findFault 56 = .ok (.aload_n 0, 1) := by decide +kernel
theorem dX8_findFault_57 : decode cX8_findFault 57 = .ok (.getfield 159, 3) := by decide +kernel
theorem dX8_findFault_60 : decode cX8_findFault 60 = .ok (.iload_n 1, 1) := by decide +kernel
theorem dX8_findFault_61 : decode cX8_findFault 61 = .ok (.isub, 1) := by decide +kernel
theorem dX8_findFault_62 : decode cX8_findFault 62 = .ok (.goto 5, 3) := by decide +kernel
theorem dX8_findFault_65 : decode cX8_findFault 65 = .ok (.ldc 116, 2) := by decide +kernel
theorem dX8_findFault_67 : decode cX8_findFault 67 = .ok (.putfield 175, 3) := by decide +kernel
theorem dX8_findFault_70 : decode cX8_findFault 70 = .ok (.aload_n 0, 1) := by decide +kernel
theorem dX8_findFault_71 : decode cX8_findFault 71 = .ok (.iload_n 2, 1) := by decide +kernel
theorem dX8_findFault_72 : decode cX8_findFault 72 = .ok (.ifCond .ge 7, 3) := by decide +kernel
theorem dX8_findFault_75 : decode cX8_findFault 75 = .ok (.iconst 1, 1) := by decide +kernel
theorem dX8_findFault_76 : decode cX8_findFault 76 = .ok (.goto 31, 3) := by decide +kernel
theorem dX8_findFault_79 : decode cX8_findFault 79 = .ok (.iload_n 2, 1) := by decide +kernel
theorem dX8_findFault_80 : decode cX8_findFault 80 = .ok (.invokestatic 97, 3) := by decide +kernel
theorem dX8_findFault_83 : decode cX8_findFault 83 = .ok (.ifCond .ne 7, 3) := by decide +kernel
theorem dX8_findFault_86 : decode cX8_findFault 86 = .ok (.iconst 2, 1) := by decide +kernel
theorem dX8_findFault_87 : decode cX8_findFault 87 = .ok (.goto 20, 3) := by decide +kernel
theorem dX8_findFault_90 : decode cX8_findFault 90 = .ok (.aload_n 0, 1) := by decide +kernel
theorem dX8_findFault_91 : decode cX8_findFault 91 = .ok (.getfield 34, 3) := by decide +kernel
theorem dX8_findFault_94 : decode cX8_findFault 94 = .ok (.iload_n 2, 1) := by decide +kernel
theorem dX8_findFault_95 : decode cX8_findFault 95 = .ok (.iaload, 1) := by decide +kernel
theorem dX8_findFault_96 : decode cX8_findFault 96 = .ok (.sipush 200, 3) := by decide +kernel
theorem dX8_findFault_99 : decode cX8_findFault 99 = .ok (.if_icmp .le 7, 3) := by decide +kernel
theorem dX8_findFault_102 : decode cX8_findFault 102 = .ok (.iconst 3, 1) := by decide +kernel
theorem dX8_findFault_103 : decode cX8_findFault 103 = .ok (.goto 4, 3) := by decide +kernel
theorem dX8_findFault_106 : decode cX8_findFault 106 = .ok (.iconst 0, 1) := by decide +kernel
theorem dX8_findFault_107 : decode cX8_findFault 107 = .ok (.putfield 178, 3) := by decide +kernel
theorem dX8_findFault_110 : decode cX8_findFault 110 = .ok (.aload_n 0, 1) := by decide +kernel
theorem dX8_findFault_111 : decode cX8_findFault 111 = .ok (.getfield 178, 3) := by decide +kernel
theorem dX8_findFault_114 : decode cX8_findFault 114 = .ok (.ifCond .le 5, 3) := by decide +kernel
theorem dX8_findFault_117 : decode cX8_findFault 117 = .ok (.iload_n 1, 1) := by decide +kernel
theorem dX8_findFault_118 : decode cX8_findFault 118 = .ok (.ireturn, 1) := by decide +kernel
theorem dX8_findFault_119 : decode cX8_findFault 119 = .ok (.goto (-90), 3) := by decide +kernel
theorem dX8_findFault_122 : decode cX8_findFault 122 = .ok (.ldc 116, 2) := by decide +kernel
theorem dX8_findFault_124 : decode cX8_findFault 124 = .ok (.ireturn, 1) := by decide +kernel
theorem dX8_fault_0 : decode cX8_fault 0 = .ok (.iload_n 1, 1) := by decide +kernel
theorem dX8_fault_1 : decode cX8_fault 1 = .ok (.iconst 0, 1) := by decide +kernel
theorem dX8_fault_2 : decode cX8_fault 2 = .ok (.iconst 2, 1) := by decide +kernel
theorem dX8_fault_3 : decode cX8_fault 3 = .ok (.invokestatic 45, 3) := by decide +kernel
theorem dX8_fault_6 : decode cX8_fault 6 = .ok (.ifCond .ne 6, 3) := by decide +kernel
theorem dX8_fault_9 : decode cX8_fault 9 = .ok (.ldc 101, 2) := by decide +kernel
theorem dX8_fault_11 : decode cX8_fault 11 = .ok (.ireturn, 1) := by decide +kernel
theorem dX8_fault_12 : decode cX8_fault 12 = .ok (.aload_n 0, 1) := by decide +kernel
theorem dX8_fault_13 : decode cX8_fault 13 = .ok (.invokevirtual 181, 3) := by decide +kernel
theorem dX8_fault_16 : decode cX8_fault 16 = .ok (.istore_n 2, 1) := by decide +kernel
theorem dX8_fault_17 : decode cX8_fault 17 = .ok (.iload_n 2, 1) := by decide +kernel
theorem dX8_fault_18 : decode cX8_fault 18 = .ok (.ldc 116, 2) := by decide +kernel
theorem dX8_fault_20 : decode cX8_fault 20 = .ok (.if_icmp .ne 8, 3) := by decide +kernel
theorem dX8_fault_23 : decode cX8_fault 23 = .ok (.ldc 116, 2) := by decide +kernel
theorem dX8_fault_25 : decode cX8_fault 25 = .ok (.goto 27, 3) := by decide +kernel
theorem dX8_fault_28 : decode cX8_fault 28 = .ok (.iload_n 1, 1) := by decide +kernel
theorem dX8_fault_29 : decode cX8_fault 29 = .ok (.ifCond .ne 7, 3) := by decide +kernel
theorem dX8_fault_32 : decode cX8_fault 32 = .ok (.iload_n 2, 1) := by decide +kernel
theorem dX8_fault_33 : decode cX8_fault 33 = .ok (.goto 19, 3) := by decide +kernel
theorem dX8_fault_36 : decode cX8_fault 36 = .ok (.iload_n 1, 1) := by decide +kernel
theorem dX8_fault_37 : decode cX8_fault 37 = .ok (.iconst 1, 1) := by decide +kernel
theorem dX8_fault_38 : decode cX8_fault 38 = .ok (.if_icmp .ne 10, 3) := by decide +kernel
theorem dX8_fault_41 : decode cX8_fault 41 = .ok (.aload_n 0, 1) := by decide +kernel
theorem dX8_fault_42 : decode cX8_fault 42 = .ok (.getfield 178, 3) := by decide +kernel
theorem dX8_fault_45 : decode cX8_fault 45 = .ok (.goto 7, 3) := by decide +kernel
theorem dX8_fault_48 : decode cX8_fault 48 = .ok (.aload_n 0, 1) := by decide +kernel
theorem dX8_fault_49 : decode cX8_fault 49 = .ok (.getfield 175, 3) := by decide +kernel
theorem dX8_fault_52 : decode cX8_fault 52 = .ok (.ireturn, 1) := by decide +kernel
theorem dX8_play_0 : decode cX8_play 0 = .ok (.aload_n 0, 1) := by decide +kernel
theorem dX8_play_1 : decode cX8_play 1 = .ok (.invokevirtual 181, 3) := by decide +kernel
theorem dX8_play_4 : decode cX8_play 4 = .ok (.ldc 116, 2) := by decide +kernel
theorem dX8_play_6 : decode cX8_play 6 = .ok (.if_icmp .eq 6, 3) := by decide +kernel
theorem dX8_play_9 : decode cX8_play 9 = .ok (.ldc 136, 2) := by decide +kernel
theorem dX8_play_11 : decode cX8_play 11 = .ok (.ireturn, 1) := by decide +kernel
theorem dX8_play_12 : decode cX8_play 12 = .ok (.aload_n 0, 1) := by decide +kernel
theorem dX8_play_13 : decode cX8_play 13 = .ok (.invokevirtual 107, 3) := by decide +kernel
theorem dX8_play_16 : decode cX8_play 16 = .ok (.aload_n 0, 1) := by decide +kernel
theorem dX8_play_17 : decode cX8_play 17 = .ok (.iconst 0, 1) := by decide +kernel
theorem dX8_play_18 : decode cX8_play 18 = .ok (.putfield 159, 3) := by decide +kernel
theorem dX8_play_21 : decode cX8_play 21 = .ok (.aload_n 0, 1) := by decide +kernel
theorem dX8_play_22 : decode cX8_play 22 = .ok (.getfield 159, 3) := by decide +kernel
theorem dX8_play_25 : decode cX8_play 25 = .ok (.aload_n 0, 1) := by decide +kernel
theorem dX8_play_26 : decode cX8_play 26 = .ok (.getfield 156, 3) := by decide +kernel
theorem dX8_play_29 : decode cX8_play 29 = .ok (.if_icmp .ge 12, 3) := by decide +kernel
theorem dX8_play_32 : decode cX8_play 32 = .ok (.aload_n 0, 1) := by decide +kernel
theorem dX8_play_33 : decode cX8_play 33 = .ok (.iconst 1, 1) := by decide +kernel
theorem dX8_play_34 : decode cX8_play 34 = .ok (.invokevirtual 171, 3) := by decide +kernel
theorem dX8_play_37 : decode cX8_play 37 = .ok (.pop, 1) := by decide +kernel
theorem dX8_play_38 : decode cX8_play 38 = .ok (.goto (-17), 3) := by decide +kernel
theorem dX8_play_41 : decode cX8_play 41 = .ok (.aload_n 0, 1) := by decide +kernel
theorem dX8_play_42 : decode cX8_play 42 = .ok (.invokevirtual 152, 3) := by decide +kernel
theorem dX8_play_45 : decode cX8_play 45 = .ok (.ireturn, 1) := by decide +kernel
theorem dJ9_floorDiv_f86c9_0 : decode cJ9_floorDiv_f86c9 0 = .ok (.lload_n 0, 1) := by decide +kernel
theorem dJ9_floorDiv_f86c9_1 : decode cJ9_floorDiv_f86c9 1 = .ok (.lload_n 2, 1) := by decide +kernel
theorem dJ9_floorDiv_f86c9_2 : decode cJ9_floorDiv_f86c9 2 = .ok (.ldiv, 1) := by decide +kernel
theorem dJ9_floorDiv_f86c9_3 : decode cJ9_floorDiv_f86c9 3 = .ok (.lstore 4, 2) := by decide +kernel
theorem dJ9_floorDiv_f86c9_5 : decode cJ9_floorDiv_f86c9 5 = .ok (.lload_n 0, 1) := by decide +kernel
theorem dJ9_floorDiv_f86c9_6 : decode cJ9_floorDiv_f86c9 6 = .ok (.lload_n 2, 1) := by decide +kernel
theorem dJ9_floorDiv_f86c9_7 : decode cJ9_floorDiv_f86c9 7 = .ok (.lxor, 1) := by decide +kernel
theorem dJ9_floorDiv_f86c9_8 : decode cJ9_floorDiv_f86c9 8 = .ok (.lconst 0, 1) := by decide +kernel
theorem dJ9_floorDiv_f86c9_9 : decode cJ9_floorDiv_f86c9 9 = .ok (.lcmp, 1) := by decide +kernel
theorem dJ9_floorDiv_f86c9_10 : decode cJ9_floorDiv_f86c9 10 = .ok (.ifCond .ge 17, 3) := by decide +kernel
theorem dJ9_floorDiv_f86c9_13 : decode cJ9_floorDiv_f86c9 13 = .ok (.lload 4, 2) := by decide +kernel
theorem dJ9_floorDiv_f86c9_15 : decode cJ9_floorDiv_f86c9 15 = .ok (.lload_n 2, 1) := by decide +kernel
theorem dJ9_floorDiv_f86c9_16 : decode cJ9_floorDiv_f86c9 16 = .ok (.lmul, 1) := by decide +kernel
theorem dJ9_floorDiv_f86c9_17 : decode cJ9_floorDiv_f86c9 17 = .ok (.lload_n 0, 1) := by decide +kernel
theorem dJ9_floorDiv_f86c9_18 : decode cJ9_floorDiv_f86c9 18 = .ok (.lcmp, 1) := by decide +kernel
theorem dJ9_floorDiv_f86c9_19 : decode cJ9_floorDiv_f86c9 19 = .ok (.ifCond .eq 8, 3) := by decide +kernel
theorem dJ9_floorDiv_f86c9_22 : decode cJ9_floorDiv_f86c9 22 = .ok (.lload 4, 2) := by decide +kernel
theorem dJ9_floorDiv_f86c9_24 : decode cJ9_floorDiv_f86c9 24 = .ok (.lconst 1, 1) := by decide +kernel
theorem dJ9_floorDiv_f86c9_25 : decode cJ9_floorDiv_f86c9 25 = .ok (.lsub, 1) := by decide +kernel
theorem dJ9_floorDiv_f86c9_26 : decode cJ9_floorDiv_f86c9 26 = .ok (.lreturn, 1) := by decide +kernel
theorem dJ9_floorDiv_f86c9_27 : decode cJ9_floorDiv_f86c9 27 = .ok (.lload 4, 2) := by decide +kernel
theorem dJ9_floorDiv_f86c9_29 : decode cJ9_floorDiv_f86c9 29 = .ok (.lreturn, 1) := by decide +kernel
theorem dJ9_abs_0f7a4_0 : decode cJ9_abs_0f7a4 0 = .ok (.iload_n 0, 1) := by decide +kernel
theorem dJ9_abs_0f7a4_1 : decode cJ9_abs_0f7a4 1 = .ok (.ifCond .ge 8, 3) := by decide +kernel
theorem dJ9_abs_0f7a4_4 : decode cJ9_abs_0f7a4 4 = .ok (.iload_n 0, 1) := by decide +kernel
theorem dJ9_abs_0f7a4_5 : decode cJ9_abs_0f7a4 5 = .ok (.ineg, 1) := by decide +kernel
theorem dJ9_abs_0f7a4_6 : decode cJ9_abs_0f7a4 6 = .ok (.goto 4, 3) := by decide +kernel
theorem dJ9_abs_0f7a4_9 : decode cJ9_abs_0f7a4 9 = .ok (.iload_n 0, 1) := by decide +kernel
theorem dJ9_abs_0f7a4_10 : decode cJ9_abs_0f7a4 10 = .ok (.ireturn, 1) := by decide +kernel
theorem dJ9_max_7cf53_0 : decode cJ9_max_7cf53 0 = .ok (.iload_n 0, 1) := by decide +kernel
theorem dJ9_max_7cf53_1 : decode cJ9_max_7cf53 1 = .ok (.iload_n 1, 1) := by decide +kernel
theorem dJ9_max_7cf53_2 : decode cJ9_max_7cf53 2 = .ok (.if_icmp .lt 7, 3) := by decide +kernel
theorem dJ9_max_7cf53_5 : decode cJ9_max_7cf53 5 = .ok (.iload_n 0, 1) := by decide +kernel
theorem dJ9_max_7cf53_6 : decode cJ9_max_7cf53 6 = .ok (.goto 4, 3) := by decide +kernel
theorem dJ9_max_7cf53_9 : decode cJ9_max_7cf53 9 = .ok (.iload_n 1, 1) := by decide +kernel
theorem dJ9_max_7cf53_10 : decode cJ9_max_7cf53 10 = .ok (.ireturn, 1) := by decide +kernel
theorem dJ9_min_7cf53_0 : decode cJ9_min_7cf53 0 = .ok (.iload_n 0, 1) := by decide +kernel
theorem dJ9_min_7cf53_1 : decode cJ9_min_7cf53 1 = .ok (.iload_n 1, 1) := by decide +kernel
theorem dJ9_min_7cf53_2 : decode cJ9_min_7cf53 2 = .ok (.if_icmp .gt 7, 3) := by decide +kernel
theorem dJ9_min_7cf53_5 : decode cJ9_min_7cf53 5 = .ok (.iload_n 0, 1) := by decide +kernel
theorem dJ9_min_7cf53_6 : decode cJ9_min_7cf53 6 = .ok (.goto 4, 3) := by decide +kernel
theorem dJ9_min_7cf53_9 : decode cJ9_min_7cf53 9 = .ok (.iload_n 1, 1) := by decide +kernel
theorem dJ9_min_7cf53_10 : decode cJ9_min_7cf53 10 = .ok (.ireturn, 1) := by decide +kernel
theorem dL_law_0 : decode cL_law 0 = .ok (.new 7, 3) := by decide +kernel
theorem dL_law_3 : decode cL_law 3 = .ok (.dup, 1) := by decide +kernel
theorem dL_law_4 : decode cL_law 4 = .ok (.invokespecial 9, 3) := by decide +kernel
theorem dL_law_7 : decode cL_law 7 = .ok (.astore_n 1, 1) := by decide +kernel
theorem dL_law_8 : decode cL_law 8 = .ok (.new 10, 3) := by decide +kernel
theorem dL_law_11 : decode cL_law 11 = .ok (.dup, 1) := by decide +kernel
theorem dL_law_12 : decode cL_law 12 = .ok (.invokespecial 12, 3) := by decide +kernel
theorem dL_law_15 : decode cL_law 15 = .ok (.astore_n 2, 1) := by decide +kernel
theorem dL_law_16 : decode cL_law 16 = .ok (.iconst 0, 1) := by decide +kernel
theorem dL_law_17 : decode cL_law 17 = .ok (.istore_n 3, 1) := by decide +kernel
theorem dL_law_18 : decode cL_law 18 = .ok (.iload_n 3, 1) := by decide +kernel
theorem dL_law_19 : decode cL_law 19 = .ok (.aload_n 0, 1) := by decide +kernel
theorem dL_law_20 : decode cL_law 20 = .ok (.arraylength, 1) := by decide +kernel
theorem dL_law_21 : decode cL_law 21 = .ok (.iconst 4, 1) := by decide +kernel
theorem dL_law_22 : decode cL_law 22 = .ok (.isub, 1) := by decide +kernel
theorem dL_law_23 : decode cL_law 23 = .ok (.if_icmp .gt 681, 3) := by decide +kernel
theorem dL_law_26 : decode cL_law 26 = .ok (.aload_n 0, 1) := by decide +kernel
theorem dL_law_27 : decode cL_law 27 = .ok (.iload_n 3, 1) := by decide +kernel
theorem dL_law_28 : decode cL_law 28 = .ok (.iaload, 1) := by decide +kernel
theorem dL_law_29 : decode cL_law 29 = .ok (.bipush 31, 2) := by decide +kernel
theorem dL_law_31 : decode cL_law 31 = .ok (.iand, 1) := by decide +kernel
theorem dL_law_32 : decode cL_law 32 = .ok (.tableswitch 666 0 19 #[96, 139, 162, 195, 218, 251, 294, 327, 360, 393, 426, 459, 492, 525, 558, 581, 594, 617, 630, 653], 96) := by decide +kernel
theorem dL_law_128 : decode cL_law 128 = .ok (.aload_n 1, 1) := by decide +kernel
theorem dL_law_129 : decode cL_law 129 = .ok (.aload_n 0, 1) := by decide +kernel
theorem dL_law_130 : decode cL_law 130 = .ok (.iload_n 3, 1) := by decide +kernel
theorem dL_law_131 : decode cL_law 131 = .ok (.iconst 1, 1) := by decide +kernel
theorem dL_law_132 : decode cL_law 132 = .ok (.iadd, 1) := by decide +kernel
theorem dL_law_133 : decode cL_law 133 = .ok (.iaload, 1) := by decide +kernel
theorem dL_law_134 : decode cL_law 134 = .ok (.aload_n 0, 1) := by decide +kernel
theorem dL_law_135 : decode cL_law 135 = .ok (.iload_n 3, 1) := by decide +kernel
theorem dL_law_136 : decode cL_law 136 = .ok (.iconst 2, 1) := by decide +kernel
theorem dL_law_137 : decode cL_law 137 = .ok (.iadd, 1) := by decide +kernel
theorem dL_law_138 : decode cL_law 138 = .ok (.iaload, 1) := by decide +kernel
theorem dL_law_139 : decode cL_law 139 = .ok (.aload_n 0, 1) := by decide +kernel
theorem dL_law_140 : decode cL_law 140 = .ok (.iload_n 3, 1) := by decide +kernel
theorem dL_law_141 : decode cL_law 141 = .ok (.iconst 3, 1) := by decide +kernel
theorem dL_law_142 : decode cL_law 142 = .ok (.iadd, 1) := by decide +kernel
theorem dL_law_143 : decode cL_law 143 = .ok (.iaload, 1) := by decide +kernel
theorem dL_law_144 : decode cL_law 144 = .ok (.invokevirtual 13, 3) := by decide +kernel
theorem dL_law_147 : decode cL_law 147 = .ok (.aload_n 2, 1) := by decide +kernel
theorem dL_law_148 : decode cL_law 148 = .ok (.aload_n 0, 1) := by decide +kernel
theorem dL_law_149 : decode cL_law 149 = .ok (.iload_n 3, 1) := by decide +kernel
theorem dL_law_150 : decode cL_law 150 = .ok (.iconst 1, 1) := by decide +kernel
theorem dL_law_151 : decode cL_law 151 = .ok (.iadd, 1) := by decide +kernel
theorem dL_law_152 : decode cL_law 152 = .ok (.iaload, 1) := by decide +kernel
theorem dL_law_153 : decode cL_law 153 = .ok (.aload_n 0, 1) := by decide +kernel
theorem dL_law_154 : decode cL_law 154 = .ok (.iload_n 3, 1) := by decide +kernel
theorem dL_law_155 : decode cL_law 155 = .ok (.iconst 2, 1) := by decide +kernel
theorem dL_law_156 : decode cL_law 156 = .ok (.iadd, 1) := by decide +kernel
theorem dL_law_157 : decode cL_law 157 = .ok (.iaload, 1) := by decide +kernel
theorem dL_law_158 : decode cL_law 158 = .ok (.aload_n 0, 1) := by decide +kernel
theorem dL_law_159 : decode cL_law 159 = .ok (.iload_n 3, 1) := by decide +kernel
theorem dL_law_160 : decode cL_law 160 = .ok (.iconst 3, 1) := by decide +kernel
theorem dL_law_161 : decode cL_law 161 = .ok (.iadd, 1) := by decide +kernel
theorem dL_law_162 : decode cL_law 162 = .ok (.iaload, 1) := by decide +kernel
theorem dL_law_163 : decode cL_law 163 = .ok (.invokevirtual 17, 3) := by decide +kernel
theorem dL_law_166 : decode cL_law 166 = .ok (.if_icmp .eq 532, 3) := by decide +kernel
theorem dL_law_169 : decode cL_law 169 = .ok (.iconst 0, 1) := by decide +kernel
theorem dL_law_170 : decode cL_law 170 = .ok (.ireturn, 1) := by decide +kernel
theorem dL_law_171 : decode cL_law 171 = .ok (.aload_n 1, 1) := by decide +kernel
theorem dL_law_172 : decode cL_law 172 = .ok (.aload_n 0, 1) := by decide +kernel
theorem dL_law_173 : decode cL_law 173 = .ok (.iload_n 3, 1) := by decide +kernel
theorem dL_law_174 : decode cL_law 174 = .ok (.iconst 1, 1) := by decide +kernel
theorem dL_law_175 : decode cL_law 175 = .ok (.iadd, 1) := by decide +kernel
theorem dL_law_176 : decode cL_law 176 = .ok (.iaload, 1) := by decide +kernel
theorem dL_law_177 : decode cL_law 177 = .ok (.invokevirtual 18, 3) := by decide +kernel
theorem dL_law_180 : decode cL_law 180 = .ok (.aload_n 2, 1) := by decide +kernel
theorem dL_law_181 : decode cL_law 181 = .ok (.aload_n 0, 1) := by decide +kernel
theorem dL_law_182 : decode cL_law 182 = .ok (.iload_n 3, 1) := by decide +kernel
theorem dL_law_183 : decode cL_law 183 = .ok (.iconst 1, 1) := by decide +kernel
theorem dL_law_184 : decode cL_law 184 = .ok (.iadd, 1) := by decide +kernel
theorem dL_law_185 : decode cL_law 185 = .ok (.iaload, 1) := by decide +kernel
theorem dL_law_186 : decode cL_law 186 = .ok (.invokevirtual 22, 3) := by decide +kernel
theorem dL_law_189 : decode cL_law 189 = .ok (.if_icmp .eq 509, 3) := by decide +kernel
theorem dL_law_192 : decode cL_law 192 = .ok (.iconst 0, 1) := by decide +kernel
theorem dL_law_193 : decode cL_law 193 = .ok (.ireturn, 1) := by decide +kernel
theorem dL_law_194 : decode cL_law 194 = .ok (.aload_n 1, 1) := by decide +kernel
theorem dL_law_195 : decode cL_law 195 = .ok (.aload_n 0, 1) := by decide +kernel
theorem dL_law_196 : decode cL_law 196 = .ok (.iload_n 3, 1) := by decide +kernel
theorem dL_law_197 : decode cL_law 197 = .ok (.iconst 1, 1) := by decide +kernel
theorem dL_law_198 : decode cL_law 198 = .ok (.iadd, 1) := by decide +kernel
theorem dL_law_199 : decode cL_law 199 = .ok (.iaload, 1) := by decide +kernel
theorem dL_law_200 : decode cL_law 200 = .ok (.aload_n 0, 1) := by decide +kernel
theorem dL_law_201 : decode cL_law 201 = .ok (.iload_n 3, 1) := by decide +kernel
theorem dL_law_202 : decode cL_law 202 = .ok (.iconst 2, 1) := by decide +kernel
theorem dL_law_203 : decode cL_law 203 = .ok (.iadd, 1) := by decide +kernel
theorem dL_law_204 : decode cL_law 204 = .ok (.iaload, 1) := by decide +kernel
theorem dL_law_205 : decode cL_law 205 = .ok (.invokevirtual 23, 3) := by decide +kernel
theorem dL_law_208 : decode cL_law 208 = .ok (.aload_n 2, 1) := by decide +kernel
theorem dL_law_209 : decode cL_law 209 = .ok (.aload_n 0, 1) := by decide +kernel
theorem dL_law_210 : decode cL_law 210 = .ok (.iload_n 3, 1) := by decide +kernel
theorem dL_law_211 : decode cL_law 211 = .ok (.iconst 1, 1) := by decide +kernel
theorem dL_law_212 : decode cL_law 212 = .ok (.iadd, 1) := by decide +kernel
theorem dL_law_213 : decode cL_law 213 = .ok (.iaload, 1) := by decide +kernel
theorem dL_law_214 : decode cL_law 214 = .ok (.aload_n 0, 1) := by decide +kernel
theorem dL_law_215 : decode cL_law 215 = .ok (.iload_n 3, 1) := by decide +kernel
theorem dL_law_216 : decode cL_law 216 = .ok (.iconst 2, 1) := by decide +kernel
theorem dL_law_217 : decode cL_law 217 = .ok (.iadd, 1) := by decide +kernel
theorem dL_law_218 : decode cL_law 218 = .ok (.iaload, 1) := by decide +kernel
theorem dL_law_219 : decode cL_law 219 = .ok (.invokevirtual 27, 3) := by decide +kernel
theorem dL_law_222 : decode cL_law 222 = .ok (.if_icmp .eq 476, 3) := by decide +kernel
theorem dL_law_225 : decode cL_law 225 = .ok (.iconst 0, 1) := by decide +kernel
theorem dL_law_226 : decode cL_law 226 = .ok (.ireturn, 1) := by decide +kernel
theorem dL_law_227 : decode cL_law 227 = .ok (.aload_n 1, 1) := by decide +kernel
theorem dL_law_228 : decode cL_law 228 = .ok (.aload_n 0, 1) := by decide +kernel
theorem dL_law_229 : decode cL_law 229 = .ok (.iload_n 3, 1) := by decide +kernel
theorem dL_law_230 : decode cL_law 230 = .ok (.iconst 1, 1) := by decide +kernel
theorem dL_law_231 : decode cL_law 231 = .ok (.iadd, 1) := by decide +kernel
theorem dL_law_232 : decode cL_law 232 = .ok (.iaload, 1) := by decide +kernel
theorem dL_law_233 : decode cL_law 233 = .ok (.invokevirtual 28, 3) := by decide +kernel
theorem dL_law_236 : decode cL_law 236 = .ok (.aload_n 2, 1) := by decide +kernel
theorem dL_law_237 : decode cL_law 237 = .ok (.aload_n 0, 1) := by decide +kernel
theorem dL_law_238 : decode cL_law 238 = .ok (.iload_n 3, 1) := by decide +kernel
theorem dL_law_239 : decode cL_law 239 = .ok (.iconst 1, 1) := by decide +kernel
theorem dL_law_240 : decode cL_law 240 = .ok (.iadd, 1) := by decide +kernel
theorem dL_law_241 : decode cL_law 241 = .ok (.iaload, 1) := by decide +kernel
theorem dL_law_242 : decode cL_law 242 = .ok (.invokevirtual 31, 3) := by decide +kernel
theorem dL_law_245 : decode cL_law 245 = .ok (.if_icmp .eq 453, 3) := by decide +kernel
theorem dL_law_248 : decode cL_law 248 = .ok (.iconst 0, 1) := by decide +kernel
theorem dL_law_249 : decode cL_law 249 = .ok (.ireturn, 1) := by decide +kernel
theorem dL_law_250 : decode cL_law 250 = .ok (.aload_n 1, 1) := by decide +kernel
theorem dL_law_251 : decode cL_law 251 = .ok (.aload_n 0, 1) := by decide +kernel
theorem dL_law_252 : decode cL_law 252 = .ok (.iload_n 3, 1) := by decide +kernel
theorem dL_law_253 : decode cL_law 253 = .ok (.iconst 1, 1) := by decide +kernel
theorem dL_law_254 : decode cL_law 254 = .ok (.iadd, 1) := by decide +kernel
theorem dL_law_255 : decode cL_law 255 = .ok (.iaload, 1) := by decide +kernel
theorem dL_law_256 : decode cL_law 256 = .ok (.aload_n 0, 1) := by decide +kernel
theorem dL_law_257 : decode cL_law 257 = .ok (.iload_n 3, 1) := by decide +kernel
theorem dL_law_258 : decode cL_law 258 = .ok (.iconst 2, 1) := by decide +kernel
theorem dL_law_259 : decode cL_law 259 = .ok (.iadd, 1) := by decide +kernel
theorem dL_law_260 : decode cL_law 260 = .ok (.iaload, 1) := by decide +kernel
theorem dL_law_261 : decode cL_law 261 = .ok (.invokevirtual 32, 3) := by decide +kernel
theorem dL_law_264 : decode cL_law 264 = .ok (.aload_n 2, 1) := by decide +kernel
theorem dL_law_265 : decode cL_law 265 = .ok (.aload_n 0, 1) := by decide +kernel
theorem dL_law_266 : decode cL_law 266 = .ok (.iload_n 3, 1) := by decide +kernel
theorem dL_law_267 : decode cL_law 267 = .ok (.iconst 1, 1) := by decide +kernel
theorem dL_law_268 : decode cL_law 268 = .ok (.iadd, 1) := by decide +kernel
theorem dL_law_269 : decode cL_law 269 = .ok (.iaload, 1) := by decide +kernel
theorem dL_law_270 : decode cL_law 270 = .ok (.aload_n 0, 1) := by decide +kernel
theorem dL_law_271 : decode cL_law 271 = .ok (.iload_n 3, 1) := by decide +kernel
theorem dL_law_272 : decode cL_law 272 = .ok (.iconst 2, 1) := by decide +kernel
theorem dL_law_273 : decode cL_law 273 = .ok (.iadd, 1) := by decide +kernel
theorem dL_law_274 : decode cL_law 274 = .ok (.iaload, 1) := by decide +kernel
theorem dL_law_275 : decode cL_law 275 = .ok (.invokevirtual 35, 3) := by decide +kernel
theorem dL_law_278 : decode cL_law 278 = .ok (.if_icmp .eq 420, 3) := by decide +kernel
theorem dL_law_281 : decode cL_law 281 = .ok (.iconst 0, 1) := by decide +kernel
theorem dL_law_282 : decode cL_law 282 = .ok (.ireturn, 1) := by decide +kernel
theorem dL_law_283 : decode cL_law 283 = .ok (.aload_n 1, 1) := by decide +kernel
theorem dL_law_284 : decode cL_law 284 = .ok (.aload_n 0, 1) := by decide +kernel
theorem dL_law_285 : decode cL_law 285 = .ok (.iload_n 3, 1) := by decide +kernel
theorem dL_law_286 : decode cL_law 286 = .ok (.iconst 1, 1) := by decide +kernel
theorem dL_law_287 : decode cL_law 287 = .ok (.iadd, 1) := by decide +kernel
theorem dL_law_288 : decode cL_law 288 = .ok (.iaload, 1) := by decide +kernel
theorem dL_law_289 : decode cL_law 289 = .ok (.aload_n 0, 1) := by decide +kernel
theorem dL_law_290 : decode cL_law 290 = .ok (.iload_n 3, 1) := by decide +kernel
theorem dL_law_291 : decode cL_law 291 = .ok (.iconst 2, 1) := by decide +kernel
theorem dL_law_292 : decode cL_law 292 = .ok (.iadd, 1) := by decide +kernel
theorem dL_law_293 : decode cL_law 293 = .ok (.iaload, 1) := by decide +kernel
theorem dL_law_294 : decode cL_law 294 = .ok (.aload_n 0, 1) := by decide +kernel
theorem dL_law_295 : decode cL_law 295 = .ok (.iload_n 3, 1) := by decide +kernel
theorem dL_law_296 : decode cL_law 296 = .ok (.iconst 3, 1) := by decide +kernel
theorem dL_law_297 : decode cL_law 297 = .ok (.iadd, 1) := by decide +kernel
theorem dL_law_298 : decode cL_law 298 = .ok (.iaload, 1) := by decide +kernel
theorem dL_law_299 : decode cL_law 299 = .ok (.invokevirtual 36, 3) := by decide +kernel
theorem dL_law_302 : decode cL_law 302 = .ok (.aload_n 2, 1) := by decide +kernel
theorem dL_law_303 : decode cL_law 303 = .ok (.aload_n 0, 1) := by decide +kernel
theorem dL_law_304 : decode cL_law 304 = .ok (.iload_n 3, 1) := by decide +kernel
theorem dL_law_305 : decode cL_law 305 = .ok (.iconst 1, 1) := by decide +kernel
theorem dL_law_306 : decode cL_law 306 = .ok (.iadd, 1) := by decide +kernel
theorem dL_law_307 : decode cL_law 307 = .ok (.iaload, 1) := by decide +kernel
theorem dL_law_308 : decode cL_law 308 = .ok (.aload_n 0, 1) := by decide +kernel
theorem dL_law_309 : decode cL_law 309 = .ok (.iload_n 3, 1) := by decide +kernel
theorem dL_law_310 : decode cL_law 310 = .ok (.iconst 2, 1) := by decide +kernel
theorem dL_law_311 : decode cL_law 311 = .ok (.iadd, 1) := by decide +kernel
theorem dL_law_312 : decode cL_law 312 = .ok (.iaload, 1) := by decide +kernel
theorem dL_law_313 : decode cL_law 313 = .ok (.aload_n 0, 1) := by decide +kernel
theorem dL_law_314 : decode cL_law 314 = .ok (.iload_n 3, 1) := by decide +kernel
theorem dL_law_315 : decode cL_law 315 = .ok (.iconst 3, 1) := by decide +kernel
theorem dL_law_316 : decode cL_law 316 = .ok (.iadd, 1) := by decide +kernel
theorem dL_law_317 : decode cL_law 317 = .ok (.iaload, 1) := by decide +kernel
theorem dL_law_318 : decode cL_law 318 = .ok (.invokevirtual 39, 3) := by decide +kernel
theorem dL_law_321 : decode cL_law 321 = .ok (.if_icmp .eq 377, 3) := by decide +kernel
theorem dL_law_324 : decode cL_law 324 = .ok (.iconst 0, 1) := by decide +kernel
theorem dL_law_325 : decode cL_law 325 = .ok (.ireturn, 1) := by decide +kernel
theorem dL_law_326 : decode cL_law 326 = .ok (.aload_n 1, 1) := by decide +kernel
theorem dL_law_327 : decode cL_law 327 = .ok (.aload_n 0, 1) := by decide +kernel
theorem dL_law_328 : decode cL_law 328 = .ok (.iload_n 3, 1) := by decide +kernel
theorem dL_law_329 : decode cL_law 329 = .ok (.iconst 1, 1) := by decide +kernel
theorem dL_law_330 : decode cL_law 330 = .ok (.iadd, 1) := by decide +kernel
theorem dL_law_331 : decode cL_law 331 = .ok (.iaload, 1) := by decide +kernel
theorem dL_law_332 : decode cL_law 332 = .ok (.aload_n 0, 1) := by decide +kernel
theorem dL_law_333 : decode cL_law 333 = .ok (.iload_n 3, 1) := by decide +kernel
theorem dL_law_334 : decode cL_law 334 = .ok (.iconst 2, 1) := by decide +kernel
theorem dL_law_335 : decode cL_law 335 = .ok (.iadd, 1) := by decide +kernel
theorem dL_law_336 : decode cL_law 336 = .ok (.iaload, 1) := by decide +kernel
theorem dL_law_337 : decode cL_law 337 = .ok (.invokevirtual 40, 3) := by decide +kernel
theorem dL_law_340 : decode cL_law 340 = .ok (.aload_n 2, 1) := by decide +kernel
theorem dL_law_341 : decode cL_law 341 = .ok (.aload_n 0, 1) := by decide +kernel
theorem dL_law_342 : decode cL_law 342 = .ok (.iload_n 3, 1) := by decide +kernel
theorem dL_law_343 : decode cL_law 343 = .ok (.iconst 1, 1) := by decide +kernel
theorem dL_law_344 : decode cL_law 344 = .ok (.iadd, 1) := by decide +kernel
theorem dL_law_345 : decode cL_law 345 = .ok (.iaload, 1) := by decide +kernel
theorem dL_law_346 : decode cL_law 346 = .ok (.aload_n 0, 1) := by decide +kernel
theorem dL_law_347 : decode cL_law 347 = .ok (.iload_n 3, 1) := by decide +kernel
theorem dL_law_348 : decode cL_law 348 = .ok (.iconst 2, 1) := by decide +kernel
theorem dL_law_349 : decode cL_law 349 = .ok (.iadd, 1) := by decide +kernel
theorem dL_law_350 : decode cL_law 350 = .ok (.iaload, 1) := by decide +kernel
theorem dL_law_351 : decode cL_law 351 = .ok (.invokevirtual 43, 3) := by decide +kernel
theorem dL_law_354 : decode cL_law 354 = .ok (.if_icmp .eq 344, 3) := by decide +kernel
theorem dL_law_357 : decode cL_law 357 = .ok (.iconst 0, 1) := by decide +kernel
theorem dL_law_358 : decode cL_law 358 = .ok (.ireturn, 1) := by decide +kernel
theorem dL_law_359 : decode cL_law 359 = .ok (.aload_n 1, 1) := by decide +kernel
theorem dL_law_360 : decode cL_law 360 = .ok (.aload_n 0, 1) := by decide +kernel
theorem dL_law_361 : decode cL_law 361 = .ok (.iload_n 3, 1) := by decide +kernel
theorem dL_law_362 : decode cL_law 362 = .ok (.iconst 1, 1) := by decide +kernel
theorem dL_law_363 : decode cL_law 363 = .ok (.iadd, 1) := by decide +kernel
theorem dL_law_364 : decode cL_law 364 = .ok (.iaload, 1) := by decide +kernel
theorem dL_law_365 : decode cL_law 365 = .ok (.aload_n 0, 1) := by decide +kernel
theorem dL_law_366 : decode cL_law 366 = .ok (.iload_n 3, 1) := by decide +kernel
theorem dL_law_367 : decode cL_law 367 = .ok (.iconst 2, 1) := by decide +kernel
theorem dL_law_368 : decode cL_law 368 = .ok (.iadd, 1) := by decide +kernel
theorem dL_law_369 : decode cL_law 369 = .ok (.iaload, 1) := by decide +kernel
theorem dL_law_370 : decode cL_law 370 = .ok (.invokevirtual 44, 3) := by decide +kernel
theorem dL_law_373 : decode cL_law 373 = .ok (.aload_n 2, 1) := by decide +kernel
theorem dL_law_374 : decode cL_law 374 = .ok (.aload_n 0, 1) := by decide +kernel
theorem dL_law_375 : decode cL_law 375 = .ok (.iload_n 3, 1) := by decide +kernel
theorem dL_law_376 : decode cL_law 376 = .ok (.iconst 1, 1) := by decide +kernel
theorem dL_law_377 : decode cL_law 377 = .ok (.iadd, 1) := by decide +kernel
theorem dL_law_378 : decode cL_law 378 = .ok (.iaload, 1) := by decide +kernel
theorem dL_law_379 : decode cL_law 379 = .ok (.aload_n 0, 1) := by decide +kernel
theorem dL_law_380 : decode cL_law 380 = .ok (.iload_n 3, 1) := by decide +kernel
theorem dL_law_381 : decode cL_law 381 = .ok (.iconst 2, 1) := by decide +kernel
theorem dL_law_382 : decode cL_law 382 = .ok (.iadd, 1) := by decide +kernel
theorem dL_law_383 : decode cL_law 383 = .ok (.iaload, 1) := by decide +kernel
theorem dL_law_384 : decode cL_law 384 = .ok (.invokevirtual 47, 3) := by decide +kernel
theorem dL_law_387 : decode cL_law 387 = .ok (.if_icmp .eq 311, 3) := by decide +kernel
theorem dL_law_390 : decode cL_law 390 = .ok (.iconst 0, 1) := by decide +kernel
theorem dL_law_391 : decode cL_law 391 = .ok (.ireturn, 1) := by decide +kernel
theorem dL_law_392 : decode cL_law 392 = .ok (.aload_n 1, 1) := by decide +kernel
theorem dL_law_393 : decode cL_law 393 = .ok (.aload_n 0, 1) := by decide +kernel
theorem dL_law_394 : decode cL_law 394 = .ok (.iload_n 3, 1) := by decide +kernel
theorem dL_law_395 : decode cL_law 395 = .ok (.iconst 1, 1) := by decide +kernel
theorem dL_law_396 : decode cL_law 396 = .ok (.iadd, 1) := by decide +kernel
theorem dL_law_397 : decode cL_law 397 = .ok (.iaload, 1) := by decide +kernel
theorem dL_law_398 : decode cL_law 398 = .ok (.aload_n 0, 1) := by decide +kernel
theorem dL_law_399 : decode cL_law 399 = .ok (.iload_n 3, 1) := by decide +kernel
theorem dL_law_400 : decode cL_law 400 = .ok (.iconst 2, 1) := by decide +kernel
theorem dL_law_401 : decode cL_law 401 = .ok (.iadd, 1) := by decide +kernel
theorem dL_law_402 : decode cL_law 402 = .ok (.iaload, 1) := by decide +kernel
theorem dL_law_403 : decode cL_law 403 = .ok (.invokevirtual 48, 3) := by decide +kernel
theorem dL_law_406 : decode cL_law 406 = .ok (.aload_n 2, 1) := by decide +kernel
theorem dL_law_407 : decode cL_law 407 = .ok (.aload_n 0, 1) := by decide +kernel
theorem dL_law_408 : decode cL_law 408 = .ok (.iload_n 3, 1) := by decide +kernel
theorem dL_law_409 : decode cL_law 409 = .ok (.iconst 1, 1) := by decide +kernel
theorem dL_law_410 : decode cL_law 410 = .ok (.iadd, 1) := by decide +kernel
theorem dL_law_411 : decode cL_law 411 = .ok (.iaload, 1) := by decide +kernel
theorem dL_law_412 : decode cL_law 412 = .ok (.aload_n 0, 1) := by decide +kernel
theorem dL_law_413 : decode cL_law 413 = .ok (.iload_n 3, 1) := by decide +kernel
theorem dL_law_414 : decode cL_law 414 = .ok (.iconst 2, 1) := by decide +kernel
theorem dL_law_415 : decode cL_law 415 = .ok (.iadd, 1) := by decide +kernel
theorem dL_law_416 : decode cL_law 416 = .ok (.iaload, 1) := by decide +kernel
theorem dL_law_417 : decode cL_law 417 = .ok (.invokevirtual 51, 3) := by decide +kernel
theorem dL_law_420 : decode cL_law 420 = .ok (.if_icmp .eq 278, 3) := by decide +kernel
theorem dL_law_423 : decode cL_law 423 = .ok (.iconst 0, 1) := by decide +kernel
theorem dL_law_424 : decode cL_law 424 = .ok (.ireturn, 1) := by decide +kernel
theorem dL_law_425 : decode cL_law 425 = .ok (.aload_n 1, 1) := by decide +kernel
theorem dL_law_426 : decode cL_law 426 = .ok (.aload_n 0, 1) := by decide +kernel
theorem dL_law_427 : decode cL_law 427 = .ok (.iload_n 3, 1) := by decide +kernel
theorem dL_law_428 : decode cL_law 428 = .ok (.iconst 1, 1) := by decide +kernel
theorem dL_law_429 : decode cL_law 429 = .ok (.iadd, 1) := by decide +kernel
theorem dL_law_430 : decode cL_law 430 = .ok (.iaload, 1) := by decide +kernel
theorem dL_law_431 : decode cL_law 431 = .ok (.aload_n 0, 1) := by decide +kernel
theorem dL_law_432 : decode cL_law 432 = .ok (.iload_n 3, 1) := by decide +kernel
theorem dL_law_433 : decode cL_law 433 = .ok (.iconst 2, 1) := by decide +kernel
theorem dL_law_434 : decode cL_law 434 = .ok (.iadd, 1) := by decide +kernel
theorem dL_law_435 : decode cL_law 435 = .ok (.iaload, 1) := by decide +kernel
theorem dL_law_436 : decode cL_law 436 = .ok (.invokevirtual 52, 3) := by decide +kernel
theorem dL_law_439 : decode cL_law 439 = .ok (.aload_n 2, 1) := by decide +kernel
theorem dL_law_440 : decode cL_law 440 = .ok (.aload_n 0, 1) := by decide +kernel
theorem dL_law_441 : decode cL_law 441 = .ok (.iload_n 3, 1) := by decide +kernel
theorem dL_law_442 : decode cL_law 442 = .ok (.iconst 1, 1) := by decide +kernel
theorem dL_law_443 : decode cL_law 443 = .ok (.iadd, 1) := by decide +kernel
theorem dL_law_444 : decode cL_law 444 = .ok (.iaload, 1) := by decide +kernel
theorem dL_law_445 : decode cL_law 445 = .ok (.aload_n 0, 1) := by decide +kernel
theorem dL_law_446 : decode cL_law 446 = .ok (.iload_n 3, 1) := by decide +kernel
theorem dL_law_447 : decode cL_law 447 = .ok (.iconst 2, 1) := by decide +kernel
theorem dL_law_448 : decode cL_law 448 = .ok (.iadd, 1) := by decide +kernel
theorem dL_law_449 : decode cL_law 449 = .ok (.iaload, 1) := by decide +kernel
theorem dL_law_450 : decode cL_law 450 = .ok (.invokevirtual 55, 3) := by decide +kernel
theorem dL_law_453 : decode cL_law 453 = .ok (.if_icmp .eq 245, 3) := by decide +kernel
theorem dL_law_456 : decode cL_law 456 = .ok (.iconst 0, 1) := by decide +kernel
theorem dL_law_457 : decode cL_law 457 = .ok (.ireturn, 1) := by decide +kernel
theorem dL_law_458 : decode cL_law 458 = .ok (.aload_n 1, 1) := by decide +kernel
theorem dL_law_459 : decode cL_law 459 = .ok (.aload_n 0, 1) := by decide +kernel
theorem dL_law_460 : decode cL_law 460 = .ok (.iload_n 3, 1) := by decide +kernel
theorem dL_law_461 : decode cL_law 461 = .ok (.iconst 1, 1) := by decide +kernel
theorem dL_law_462 : decode cL_law 462 = .ok (.iadd, 1) := by decide +kernel
theorem dL_law_463 : decode cL_law 463 = .ok (.iaload, 1) := by decide +kernel
theorem dL_law_464 : decode cL_law 464 = .ok (.aload_n 0, 1) := by decide +kernel
theorem dL_law_465 : decode cL_law 465 = .ok (.iload_n 3, 1) := by decide +kernel
theorem dL_law_466 : decode cL_law 466 = .ok (.iconst 2, 1) := by decide +kernel
theorem dL_law_467 : decode cL_law 467 = .ok (.iadd, 1) := by decide +kernel
theorem dL_law_468 : decode cL_law 468 = .ok (.iaload, 1) := by decide +kernel
theorem dL_law_469 : decode cL_law 469 = .ok (.invokevirtual 56, 3) := by decide +kernel
theorem dL_law_472 : decode cL_law 472 = .ok (.aload_n 2, 1) := by decide +kernel
theorem dL_law_473 : decode cL_law 473 = .ok (.aload_n 0, 1) := by decide +kernel
theorem dL_law_474 : decode cL_law 474 = .ok (.iload_n 3, 1) := by decide +kernel
theorem dL_law_475 : decode cL_law 475 = .ok (.iconst 1, 1) := by decide +kernel
theorem dL_law_476 : decode cL_law 476 = .ok (.iadd, 1) := by decide +kernel
theorem dL_law_477 : decode cL_law 477 = .ok (.iaload, 1) := by decide +kernel
theorem dL_law_478 : decode cL_law 478 = .ok (.aload_n 0, 1) := by decide +kernel
theorem dL_law_479 : decode cL_law 479 = .ok (.iload_n 3, 1) := by decide +kernel
theorem dL_law_480 : decode cL_law 480 = .ok (.iconst 2, 1) := by decide +kernel
theorem dL_law_481 : decode cL_law 481 = .ok (.iadd, 1) := by decide +kernel
theorem dL_law_482 : decode cL_law 482 = .ok (.iaload, 1) := by decide +kernel
theorem dL_law_483 : decode cL_law 483 = .ok (.invokevirtual 59, 3) := by decide +kernel
theorem dL_law_486 : decode cL_law 486 = .ok (.if_icmp .eq 212, 3) := by decide +kernel
theorem dL_law_489 : decode cL_law 489 = .ok (.iconst 0, 1) := by decide +kernel
theorem dL_law_490 : decode cL_law 490 = .ok (.ireturn, 1) := by decide +kernel
theorem dL_law_491 : decode cL_law 491 = .ok (.aload_n 1, 1) := by decide +kernel
theorem dL_law_492 : decode cL_law 492 = .ok (.aload_n 0, 1) := by decide +kernel
theorem dL_law_493 : decode cL_law 493 = .ok (.iload_n 3, 1) := by decide +kernel
theorem dL_law_494 : decode cL_law 494 = .ok (.iconst 1, 1) := by decide +kernel
theorem dL_law_495 : decode cL_law 495 = .ok (.iadd, 1) := by decide +kernel
theorem dL_law_496 : decode cL_law 496 = .ok (.iaload, 1) := by decide +kernel
theorem dL_law_497 : decode cL_law 497 = .ok (.aload_n 0, 1) := by decide +kernel
theorem dL_law_498 : decode cL_law 498 = .ok (.iload_n 3, 1) := by decide +kernel
theorem dL_law_499 : decode cL_law 499 = .ok (.iconst 2, 1) := by decide +kernel
theorem dL_law_500 : decode cL_law 500 = .ok (.iadd, 1) := by decide +kernel
theorem dL_law_501 : decode cL_law 501 = .ok (.iaload, 1) := by decide +kernel
theorem dL_law_502 : decode cL_law 502 = .ok (.invokevirtual 60, 3) := by decide +kernel
theorem dL_law_505 : decode cL_law 505 = .ok (.aload_n 2, 1) := by decide +kernel
theorem dL_law_506 : decode cL_law 506 = .ok (.aload_n 0, 1) := by decide +kernel
theorem dL_law_507 : decode cL_law 507 = .ok (.iload_n 3, 1) := by decide +kernel
theorem dL_law_508 : decode cL_law 508 = .ok (.iconst 1, 1) := by decide +kernel
theorem dL_law_509 : decode cL_law 509 = .ok (.iadd, 1) := by decide +kernel
theorem dL_law_510 : decode cL_law 510 = .ok (.iaload, 1) := by decide +kernel
theorem dL_law_511 : decode cL_law 511 = .ok (.aload_n 0, 1) := by decide +kernel
theorem dL_law_512 : decode cL_law 512 = .ok (.iload_n 3, 1) := by decide +kernel
theorem dL_law_513 : decode cL_law 513 = .ok (.iconst 2, 1) := by decide +kernel
theorem dL_law_514 : decode cL_law 514 = .ok (.iadd, 1) := by decide +kernel
theorem dL_law_515 : decode cL_law 515 = .ok (.iaload, 1) := by decide +kernel
theorem dL_law_516 : decode cL_law 516 = .ok (.invokevirtual 63, 3) := by decide +kernel
theorem dL_law_519 : decode cL_law 519 = .ok (.if_icmp .eq 179, 3) := by decide +kernel
theorem dL_law_522 : decode cL_law 522 = .ok (.iconst 0, 1) := by decide +kernel
theorem dL_law_523 : decode cL_law 523 = .ok (.ireturn, 1) := by decide +kernel
theorem dL_law_524 : decode cL_law 524 = .ok (.aload_n 1, 1) := by decide +kernel
theorem dL_law_525 : decode cL_law 525 = .ok (.aload_n 0, 1) := by decide +kernel
theorem dL_law_526 : decode cL_law 526 = .ok (.iload_n 3, 1) := by decide +kernel
theorem dL_law_527 : decode cL_law 527 = .ok (.iconst 1, 1) := by decide +kernel
theorem dL_law_528 : decode cL_law 528 = .ok (.iadd, 1) := by decide +kernel
theorem dL_law_529 : decode cL_law 529 = .ok (.iaload, 1) := by decide +kernel
theorem dL_law_530 : decode cL_law 530 = .ok (.aload_n 0, 1) := by decide +kernel
theorem dL_law_531 : decode cL_law 531 = .ok (.iload_n 3, 1) := by decide +kernel
theorem dL_law_532 : decode cL_law 532 = .ok (.iconst 2, 1) := by decide +kernel
theorem dL_law_533 : decode cL_law 533 = .ok (.iadd, 1) := by decide +kernel
theorem dL_law_534 : decode cL_law 534 = .ok (.iaload, 1) := by decide +kernel
theorem dL_law_535 : decode cL_law 535 = .ok (.invokevirtual 64, 3) := by decide +kernel
theorem dL_law_538 : decode cL_law 538 = .ok (.aload_n 2, 1) := by decide +kernel
theorem dL_law_539 : decode cL_law 539 = .ok (.aload_n 0, 1) := by decide +kernel
theorem dL_law_540 : decode cL_law 540 = .ok (.iload_n 3, 1) := by decide +kernel
theorem dL_law_541 : decode cL_law 541 = .ok (.iconst 1, 1) := by decide +kernel
theorem dL_law_542 : decode cL_law 542 = .ok (.iadd, 1) := by decide +kernel
theorem dL_law_543 : decode cL_law 543 = .ok (.iaload, 1) := by decide +kernel
theorem dL_law_544 : decode cL_law 544 = .ok (.aload_n 0, 1) := by decide +kernel
theorem dL_law_545 : decode cL_law 545 = .ok (.iload_n 3, 1) := by decide +kernel
theorem dL_law_546 : decode cL_law 546 = .ok (.iconst 2, 1) := by decide +kernel
theorem dL_law_547 : decode cL_law 547 = .ok (.iadd, 1) := by decide +kernel
theorem dL_law_548 : decode cL_law 548 = .ok (.iaload, 1) := by decide +kernel
theorem dL_law_549 : decode cL_law 549 = .ok (.invokevirtual 67, 3) := by decide +kernel
theorem dL_law_552 : decode cL_law 552 = .ok (.if_icmp .eq 146, 3) := by decide +kernel
theorem dL_law_555 : decode cL_law 555 = .ok (.iconst 0, 1) := by decide +kernel
theorem dL_law_556 : decode cL_law 556 = .ok (.ireturn, 1) := by decide +kernel
theorem dL_law_557 : decode cL_law 557 = .ok (.aload_n 1, 1) := by decide +kernel
theorem dL_law_558 : decode cL_law 558 = .ok (.aload_n 0, 1) := by decide +kernel
theorem dL_law_559 : decode cL_law 559 = .ok (.iload_n 3, 1) := by decide +kernel
theorem dL_law_560 : decode cL_law 560 = .ok (.iconst 1, 1) := by decide +kernel
theorem dL_law_561 : decode cL_law 561 = .ok (.iadd, 1) := by decide +kernel
theorem dL_law_562 : decode cL_law 562 = .ok (.iaload, 1) := by decide +kernel
theorem dL_law_563 : decode cL_law 563 = .ok (.aload_n 0, 1) := by decide +kernel
theorem dL_law_564 : decode cL_law 564 = .ok (.iload_n 3, 1) := by decide +kernel
theorem dL_law_565 : decode cL_law 565 = .ok (.iconst 2, 1) := by decide +kernel
theorem dL_law_566 : decode cL_law 566 = .ok (.iadd, 1) := by decide +kernel
theorem dL_law_567 : decode cL_law 567 = .ok (.iaload, 1) := by decide +kernel
theorem dL_law_568 : decode cL_law 568 = .ok (.invokevirtual 68, 3) := by decide +kernel
theorem dL_law_571 : decode cL_law 571 = .ok (.aload_n 2, 1) := by decide +kernel
theorem dL_law_572 : decode cL_law 572 = .ok (.aload_n 0, 1) := by decide +kernel
theorem dL_law_573 : decode cL_law 573 = .ok (.iload_n 3, 1) := by decide +kernel
theorem dL_law_574 : decode cL_law 574 = .ok (.iconst 1, 1) := by decide +kernel
theorem dL_law_575 : decode cL_law 575 = .ok (.iadd, 1) := by decide +kernel
theorem dL_law_576 : decode cL_law 576 = .ok (.iaload, 1) := by decide +kernel
theorem dL_law_577 : decode cL_law 577 = .ok (.aload_n 0, 1) := by decide +kernel
theorem dL_law_578 : decode cL_law 578 = .ok (.iload_n 3, 1) := by decide +kernel
theorem dL_law_579 : decode cL_law 579 = .ok (.iconst 2, 1) := by decide +kernel
theorem dL_law_580 : decode cL_law 580 = .ok (.iadd, 1) := by decide +kernel
theorem dL_law_581 : decode cL_law 581 = .ok (.iaload, 1) := by decide +kernel
theorem dL_law_582 : decode cL_law 582 = .ok (.invokevirtual 71, 3) := by decide +kernel
theorem dL_law_585 : decode cL_law 585 = .ok (.if_icmp .eq 113, 3) := by decide +kernel
theorem dL_law_588 : decode cL_law 588 = .ok (.iconst 0, 1) := by decide +kernel
theorem dL_law_589 : decode cL_law 589 = .ok (.ireturn, 1) := by decide +kernel
theorem dL_law_590 : decode cL_law 590 = .ok (.aload_n 1, 1) := by decide +kernel
theorem dL_law_591 : decode cL_law 591 = .ok (.aload_n 0, 1) := by decide +kernel
theorem dL_law_592 : decode cL_law 592 = .ok (.iload_n 3, 1) := by decide +kernel
theorem dL_law_593 : decode cL_law 593 = .ok (.iconst 1, 1) := by decide +kernel
theorem dL_law_594 : decode cL_law 594 = .ok (.iadd, 1) := by decide +kernel
theorem dL_law_595 : decode cL_law 595 = .ok (.iaload, 1) := by decide +kernel
theorem dL_law_596 : decode cL_law 596 = .ok (.invokevirtual 72, 3) := by decide +kernel
theorem dL_law_599 : decode cL_law 599 = .ok (.aload_n 2, 1) := by decide +kernel
theorem dL_law_600 : decode cL_law 600 = .ok (.aload_n 0, 1) := by decide +kernel
theorem dL_law_601 : decode cL_law 601 = .ok (.iload_n 3, 1) := by decide +kernel
theorem dL_law_602 : decode cL_law 602 = .ok (.iconst 1, 1) := by decide +kernel
theorem dL_law_603 : decode cL_law 603 = .ok (.iadd, 1) := by decide +kernel
theorem dL_law_604 : decode cL_law 604 = .ok (.iaload, 1) := by decide +kernel
theorem dL_law_605 : decode cL_law 605 = .ok (.invokevirtual 75, 3) := by decide +kernel
theorem dL_law_608 : decode cL_law 608 = .ok (.if_icmp .eq 90, 3) := by decide +kernel
theorem dL_law_611 : decode cL_law 611 = .ok (.iconst 0, 1) := by decide +kernel
theorem dL_law_612 : decode cL_law 612 = .ok (.ireturn, 1) := by decide +kernel
theorem dL_law_613 : decode cL_law 613 = .ok (.aload_n 1, 1) := by decide +kernel
theorem dL_law_614 : decode cL_law 614 = .ok (.invokevirtual 76, 3) := by decide +kernel
theorem dL_law_617 : decode cL_law 617 = .ok (.aload_n 2, 1) := by decide +kernel
theorem dL_law_618 : decode cL_law 618 = .ok (.invokevirtual 80, 3) := by decide +kernel
theorem dL_law_621 : decode cL_law 621 = .ok (.if_icmp .eq 77, 3) := by decide +kernel
theorem dL_law_624 : decode cL_law 624 = .ok (.iconst 0, 1) := by decide +kernel
theorem dL_law_625 : decode cL_law 625 = .ok (.ireturn, 1) := by decide +kernel
end
section
theorem dL_law_626 : decode cL_law 626 = .ok (.aload_n 1, 1) := by decide +kernel
theorem dL_law_627 : decode cL_law 627 = .ok (.aload_n 0, 1) := by decide +kernel
theorem dL_law_628 : decode cL_law 628 = .ok (.iload_n 3, 1) := by decide +kernel
theorem dL_law_629 : decode cL_law 629 = .ok (.iconst 1, 1) := by decide +kernel
theorem dL_law_630 : decode cL_law 630 = .ok (.iadd, 1) := by decide +kernel
theorem dL_law_631 : decode cL_law 631 = .ok (.iaload, 1) := by decide +kernel
theorem dL_law_632 : decode cL_law 632 = .ok (.invokevirtual 81, 3) := by decide +kernel
theorem dL_law_635 : decode cL_law 635 = .ok (.aload_n 2, 1) := by decide +kernel
theorem dL_law_636 : decode cL_law 636 = .ok (.aload_n 0, 1) := by decide +kernel
theorem dL_law_637 : decode cL_law 637 = .ok (.iload_n 3, 1) := by decide +kernel
theorem dL_law_638 : decode cL_law 638 = .ok (.iconst 1, 1) := by decide +kernel
theorem dL_law_639 : decode cL_law 639 = .ok (.iadd, 1) := by decide +kernel
theorem dL_law_640 : decode cL_law 640 = .ok (.iaload, 1) := by decide +kernel
theorem dL_law_641 : decode cL_law 641 = .ok (.invokevirtual 84, 3) := by decide +kernel
theorem dL_law_644 : decode cL_law 644 = .ok (.if_icmp .eq 54, 3) := by decide +kernel
theorem dL_law_647 : decode cL_law 647 = .ok (.iconst 0, 1) := by decide +kernel
theorem dL_law_648 : decode cL_law 648 = .ok (.ireturn, 1) := by decide +kernel
theorem dL_law_649 : decode cL_law 649 = .ok (.aload_n 1, 1) := by decide +kernel
theorem dL_law_650 : decode cL_law 650 = .ok (.invokevirtual 85, 3) := by decide +kernel
theorem dL_law_653 : decode cL_law 653 = .ok (.aload_n 2, 1) := by decide +kernel
theorem dL_law_654 : decode cL_law 654 = .ok (.invokevirtual 88, 3) := by decide +kernel
theorem dL_law_657 : decode cL_law 657 = .ok (.if_icmp .eq 41, 3) := by decide +kernel
theorem dL_law_660 : decode cL_law 660 = .ok (.iconst 0, 1) := by decide +kernel
theorem dL_law_661 : decode cL_law 661 = .ok (.ireturn, 1) := by decide +kernel
theorem dL_law_662 : decode cL_law 662 = .ok (.aload_n 1, 1) := by decide +kernel
theorem dL_law_663 : decode cL_law 663 = .ok (.aload_n 0, 1) := by decide +kernel
theorem dL_law_664 : decode cL_law 664 = .ok (.iload_n 3, 1) := by decide +kernel
theorem dL_law_665 : decode cL_law 665 = .ok (.iconst 1, 1) := by decide +kernel
theorem dL_law_666 : decode cL_law 666 = .ok (.iadd, 1) := by decide +kernel
theorem dL_law_667 : decode cL_law 667 = .ok (.iaload, 1) := by decide +kernel
theorem dL_law_668 : decode cL_law 668 = .ok (.invokevirtual 89, 3) := by decide +kernel
theorem dL_law_671 : decode cL_law 671 = .ok (.aload_n 2, 1) := by decide +kernel
theorem dL_law_672 : decode cL_law 672 = .ok (.aload_n 0, 1) := by decide +kernel
theorem dL_law_673 : decode cL_law 673 = .ok (.iload_n 3, 1) := by decide +kernel
theorem dL_law_674 : decode cL_law 674 = .ok (.iconst 1, 1) := by decide +kernel
theorem dL_law_675 : decode cL_law 675 = .ok (.iadd, 1) := by decide +kernel
theorem dL_law_676 : decode cL_law 676 = .ok (.iaload, 1) := by decide +kernel
theorem dL_law_677 : decode cL_law 677 = .ok (.invokevirtual 92, 3) := by decide +kernel
theorem dL_law_680 : decode cL_law 680 = .ok (.if_icmp .eq 18, 3) := by decide +kernel
theorem dL_law_683 : decode cL_law 683 = .ok (.iconst 0, 1) := by decide +kernel
theorem dL_law_684 : decode cL_law 684 = .ok (.ireturn, 1) := by decide +kernel
theorem dL_law_685 : decode cL_law 685 = .ok (.aload_n 1, 1) := by decide +kernel
theorem dL_law_686 : decode cL_law 686 = .ok (.invokevirtual 93, 3) := by decide +kernel
theorem dL_law_689 : decode cL_law 689 = .ok (.aload_n 2, 1) := by decide +kernel
theorem dL_law_690 : decode cL_law 690 = .ok (.invokevirtual 96, 3) := by decide +kernel
theorem dL_law_693 : decode cL_law 693 = .ok (.if_icmp .eq 5, 3) := by decide +kernel
theorem dL_law_696 : decode cL_law 696 = .ok (.iconst 0, 1) := by decide +kernel
theorem dL_law_697 : decode cL_law 697 = .ok (.ireturn, 1) := by decide +kernel
theorem dL_law_698 : decode cL_law 698 = .ok (.iinc 3 4, 3) := by decide +kernel
theorem dL_law_701 : decode cL_law 701 = .ok (.goto (-683), 3) := by decide +kernel
theorem dL_law_704 : decode cL_law 704 = .ok (.iconst 1, 1) := by decide +kernel
theorem dL_law_705 : decode cL_law 705 = .ok (.ireturn, 1) := by decide +kernel
end
section
/-! The class's world: one list of 245 cells, named by numbers; what changes in it is a list of ints by such a number. -/
abbrev St : Type := Nat → List Int32
abbrev Lay : Type := va_G × ClassId × ClassId × (Nat → Nat)
def ad (L : Lay) (k : Nat) : Nat := L.2.2.2 k
def kdS : List Nat := [5,4,9, 0,1,4,9,4,9,4,9,4,9,4,9,4,9, 0,1,4,9,4,9,4,9,4,9,4,9,4,9, 0,1,4,9,4,9,4,9,4,9,4,9,4,9]
def kdR : List Nat := [2,10,4,9,3,4,9,6,4,9,1,4,9,4,9,4,9,4,9,7]
def kd (k : Nat) : Nat := if k < 225 then kdS.getD (k % 45) 99 else kdR.getD (k - 225) 99
def cpS : List Nat := [0,2,0, 0,0,200,0,200,0,200,0,200,0,20,0,200,0, 0,0,200,0,200,0,200,0,200,0,20,0,200,0, 0,0,200,0,200,0,200,0,200,0,20,0,200,0]
def cpR : List Nat := [0,0,60,0,0,60,0,0,3,0,0,200,0,200,0,200,0,200,0,0]
def cp (k : Nat) : Nat := if k < 225 then cpS.getD (k % 45) 0 else cpR.getD (k - 225) 0
def up (σ : St) (k : Nat) (l : List Int32) : St := fun j => if j = k then l else σ j
theorem up_s {σ : St} {k : Nat} {l : List Int32} : up σ k l k = l := if_pos rfl
theorem up_n {σ : St} {k j : Nat} {l : List Int32} (h : j ≠ k) : up σ k l j = σ j := if_neg h
theorem up_up {σ : St} {k : Nat} {l l' : List Int32} : up (up σ k l) k l' = up σ k l' := by
  funext j
  by_cases h : j = k
  · rw [h, up_s, up_s]
  · rw [up_n h, up_n h, up_n h]
theorem up_id {σ : St} {k : Nat} {l : List Int32} (h : σ k = l) : up σ k l = σ := by
  funext j
  by_cases hj : j = k
  · rw [hj, up_s, h]
  · rw [up_n hj]
theorem up_comm {σ : St} {i j : Nat} {a b : List Int32} (h : i ≠ j) : up (up σ i a) j b = up (up σ j b) i a := by
  funext q
  by_cases h1 : q = i
  · subst h1
    rw [up_n h, up_s, up_s]
  · rw [up_n (k := i) h1]
    by_cases h2 : q = j
    · rw [h2, up_s, up_s]
    · rw [up_n h2, up_n h2, up_n h1]
/-- a row's array: its values, and behind them what was left there -/
def ph (σ : St) (J : Nat → Nat → Int32) (k : Nat) : Nat → Int32 := fun i => if i < (σ k).length then (σ k).getD i 0 else J k i
def cnt (L : Lay) (σ : St) (J : Nat → Nat → Int32) (k : Nat) : va_E :=
  match kd k with
  | 0 => .inr (0, [.ref (ad L (k+1)), .ref (ad L (k+10)), .ref (ad L (k+12)), .int ((σ k).getD 0 0)])
  | 1 => .inr (1, [.ref (ad L (k+1)), .ref (ad L (k+3)), .ref (ad L (k+5)), .ref (ad L (k+7))])
  | 2 => .inr (2, [.ref (ad L (k+1)), .int ((σ k).getD 0 0)])
  | 3 => .inr (3, [.ref (ad L (k+1)), .int ((σ k).getD 0 0), .int ((σ k).getD 1 0)])
  | 4 => .inr (4, [.ref (ad L (k+1)), .int (nI (σ k).length)])
  | 5 => .inr (5, [.ref (ad L (k+1)), .ref (ad L (k+3)), .ref (ad L (k+17)), .ref (ad L (k+31))])
  | 6 => .inr (6, [.ref (ad L (k+1)), .int ((σ k).getD 0 0), .int ((σ k).getD 1 0), .int ((σ k).getD 2 0)])
  | 7 => .inr (7, [.ref (ad L 0), .ref (ad L 225), .ref (ad L 227), .ref (ad L 229), .ref (ad L 232), .ref (ad L 235)])
  | 9 => .inl (L.2.1, cp (k-1), .inl (ph σ J (k-1)))
  | _ => .inl (L.2.2.1, 4, .inr (.inr (.inr (.inr (fun i => some (ad L (45 * ((σ k).getD i 0).toNatClampNeg)))))))
def wld (L : Lay) (σ : St) (J : Nat → Nat → Int32) : va_W := (List.range 245).map (fun k => (ad L k, cnt L σ J k))
theorem wld_at {L : Lay} {σ : St} {J : Nat → Nat → Int32} {k : Nat} (hk : k < 245) : (wld L σ J)[k]? = some (ad L k, cnt L σ J k) := by
  rw [wld, List.getElem?_map, List.getElem?_range hk]
  rfl
theorem wld_no {L : Lay} {σ : St} {J : Nat → Nat → Int32} {k : Nat} (hk : ¬ k < 245) : (wld L σ J)[k]? = none := by
  rw [List.getElem?_eq_none_iff]
  simp [wld]
  omega
theorem wld_set {L : Lay} {σ σ' : St} {J J' : Nat → Nat → Int32} {k : Nat} {e : va_E} (hk : k < 245) (h1 : cnt L σ' J' k = e) (h2 : ∀ j, j < 245 → j ≠ k → cnt L σ' J' j = cnt L σ J j) : (wld L σ J).set k (ad L k, e) = wld L σ' J' := by
  apply List.ext_getElem?
  intro j
  by_cases hj : j < 245
  · rw [wld_at hj]
    by_cases hjk : j = k
    · subst hjk
      rw [List.getElem?_set_self (by simp [wld]; omega), h1]
    · rw [List.getElem?_set_ne (Ne.symm hjk), wld_at hj, h2 j hj hjk]
  · rw [wld_no hj, List.getElem?_eq_none_iff]
    simp [wld]
    omega
def Inj (L : Lay) : Prop := ∀ i j, i < 245 → j < 245 → ad L i = ad L j → i = j
def Aw (L : Lay) : Nat → Prop := fun q => ∃ k, k < 245 ∧ q = ad L k
theorem wld_of {L : Lay} {σ : St} {J : Nat → Nat → Int32} {k : Nat} {q : Nat × va_E} (h : (wld L σ J)[k]? = some q) : k < 245 ∧ q = (ad L k, cnt L σ J k) := by
  by_cases hk : k < 245
  · rw [wld_at hk] at h
    exact ⟨hk, (Option.some.inj h).symm⟩
  · rw [wld_no hk] at h
    cases h
theorem Inj.D {L : Lay} (h : Inj L) (σ : St) (J : Nat → Nat → Int32) : va_D (Aw L) (wld L σ J) := by
  refine ⟨fun i j p q hi hj e => ?_, fun k q hk => ?_⟩
  · obtain ⟨h1, rfl⟩ := wld_of hi
    obtain ⟨h2, rfl⟩ := wld_of hj
    exact h i j h1 h2 e
  · obtain ⟨h1, rfl⟩ := wld_of hk
    exact ⟨k, h1, rfl⟩
def wok (σ : St) : Prop := ∀ k, kd k = 4 → (σ k).length ≤ cp k
abbrev tyL (L : Lay) : List (ClassId × FieldType) := [(L.2.1, .int), (L.2.2.1, .object RX5)]
def Kn (L : Lay) (U : State) : Prop := va_K L.1 vwCl (tyL L) U ∧ va_Nw (.methodLinkNest RX0 68 yX7_trueIndex RX7) U
def Pw (L : Lay) (σ : St) (H : Heap) : Prop := wok σ ∧ ∃ J, va_P L.1 vwCl (wld L σ J) H
def bs (L : Lay) (σ : St) (U : State) : Prop := Pw L σ U.heap ∧ Kn L U
def Hd (L : Lay) (H0 H : Heap) (σ : St) (locs : List Loc) : Prop := Pw L σ H ∧ va_S (Aw L) H0 H locs
/-- an end of any kind: the answer and the new state as 'post' has them -/
def Qg {S : Type} (post : Option Value → S → Prop) (B : S → State → Prop) (A : Nat → Prop) : Array Value → State → Outcome → State → Prop := fun _ st oc t => (∃ (r : Option Value) (u : S), oc = .returned r ∧ post r u ∧ B u t) ∧ va_F A st t
/-- a method's contract in the class's world -/
def Mg (l : Launch) (L : Lay) (y : MethodName) (ws : List Cond) (rm : Room) (as : List Value) (σ : St) (post : Option Value → St → Prop) : Prop :=
  Inj L → Met l y ws rm (va_Pc as (bs L σ)) (Qg post (bs L) (Aw L)) 0 0 (Aw L)
abbrev Mf (l : Launch) (L : Lay) (y : MethodName) (ws : List Cond) (rm : Room) (as : List Value) (σ : St) (r : Option Value) (σ' : St) : Prop :=
  Mg l L y ws rm as σ (fun r1 u => r1 = r ∧ u = σ')
theorem kd_lt : ∀ k n, n ≠ 99 → kd k = n → k < 245 := by
  intro k n hn h
  by_cases hk : k < 245
  · exact hk
  · unfold kd at h
    rw [if_neg (by omega)] at h
    have : kdR.getD (k - 225) 99 = 99 := by
      rw [List.getD_eq_getElem?_getD, List.getElem?_eq_none_iff.mpr (by simp [kdR]; omega)]
      rfl
    omega
theorem kd_9 : ∀ k, k < 245 → kd k = 9 → 0 < k ∧ kd (k - 1) = 4 := by decide +kernel
theorem kd_10 : ∀ k, k < 245 → kd k = 10 → k = 226 := by decide +kernel
theorem kd_in : ∀ k, k < 245 → kd k = 0 ∨ kd k = 1 ∨ kd k = 2 ∨ kd k = 3 ∨ kd k = 4 ∨ kd k = 5 ∨ kd k = 6 ∨ kd k = 7 ∨ kd k = 9 ∨ kd k = 10 := by decide +kernel
theorem kd_4n : ∀ k, k < 245 → kd k = 4 → kd (k + 1) = 9 ∧ k + 1 < 245 := by decide +kernel
theorem kd_0h : ∀ k, k < 245 → kd k = 0 → kd (k + 1) = 1 ∧ kd (k + 10) = 4 ∧ kd (k + 12) = 4 ∧ cp (k + 10) = 20 ∧ cp (k + 12) = 200 := by decide +kernel
theorem kd_1h : ∀ k, k < 245 → kd k = 1 → kd (k + 1) = 4 ∧ kd (k + 3) = 4 ∧ kd (k + 5) = 4 ∧ kd (k + 7) = 4 ∧ cp (k + 1) = 200 ∧ cp (k + 3) = 200 ∧ cp (k + 5) = 200 ∧ cp (k + 7) = 200 := by decide +kernel
theorem kd_5h : ∀ k, k < 245 → kd k = 5 → kd (k + 1) = 4 ∧ kd (k + 3) = 0 ∧ kd (k + 17) = 0 ∧ kd (k + 31) = 0 ∧ cp (k + 1) = 2 ∧ k % 45 = 0 ∧ k < 225 := by decide +kernel
theorem cp_le : ∀ k, k < 245 → cp k ≤ 200 := by decide +kernel
theorem kd_of {k n : Nat} (h : kd k = n) (hn : n ≠ 99 := by decide) : k < 245 := kd_lt k n hn h
theorem kd0_heaps {k : Nat} (h : kd k = 0) : kd (k + 1) = 1 := (kd_0h k (kd_of h) h).1
theorem kd0_buf {k : Nat} (h : kd k = 0) : kd (k + 10) = 4 := (kd_0h k (kd_of h) h).2.1
theorem kd0_val {k : Nat} (h : kd k = 0) : kd (k + 12) = 4 := (kd_0h k (kd_of h) h).2.2.1
theorem kd1_1 {k : Nat} (h : kd k = 1) : kd (k + 1) = 4 := (kd_1h k (kd_of h) h).1
theorem kd1_3 {k : Nat} (h : kd k = 1) : kd (k + 3) = 4 := (kd_1h k (kd_of h) h).2.1
theorem kd1_5 {k : Nat} (h : kd k = 1) : kd (k + 5) = 4 := (kd_1h k (kd_of h) h).2.2.1
theorem kd1_7 {k : Nat} (h : kd k = 1) : kd (k + 7) = 4 := (kd_1h k (kd_of h) h).2.2.2.1
theorem cnt_0 {L : Lay} {σ : St} {J : Nat → Nat → Int32} {k : Nat} (h : kd k = 0) : cnt L σ J k = .inr (0, [.ref (ad L (k+1)), .ref (ad L (k+10)), .ref (ad L (k+12)), .int ((σ k).getD 0 0)]) := by unfold cnt; rw [h]; rfl
theorem cnt_1 {L : Lay} {σ : St} {J : Nat → Nat → Int32} {k : Nat} (h : kd k = 1) : cnt L σ J k = .inr (1, [.ref (ad L (k+1)), .ref (ad L (k+3)), .ref (ad L (k+5)), .ref (ad L (k+7))]) := by unfold cnt; rw [h]; rfl
theorem cnt_2 {L : Lay} {σ : St} {J : Nat → Nat → Int32} {k : Nat} (h : kd k = 2) : cnt L σ J k = .inr (2, [.ref (ad L (k+1)), .int ((σ k).getD 0 0)]) := by unfold cnt; rw [h]; rfl
theorem cnt_3 {L : Lay} {σ : St} {J : Nat → Nat → Int32} {k : Nat} (h : kd k = 3) : cnt L σ J k = .inr (3, [.ref (ad L (k+1)), .int ((σ k).getD 0 0), .int ((σ k).getD 1 0)]) := by unfold cnt; rw [h]; rfl
theorem cnt_4 {L : Lay} {σ : St} {J : Nat → Nat → Int32} {k : Nat} (h : kd k = 4) : cnt L σ J k = .inr (4, [.ref (ad L (k+1)), .int (nI (σ k).length)]) := by unfold cnt; rw [h]; rfl
theorem cnt_5 {L : Lay} {σ : St} {J : Nat → Nat → Int32} {k : Nat} (h : kd k = 5) : cnt L σ J k = .inr (5, [.ref (ad L (k+1)), .ref (ad L (k+3)), .ref (ad L (k+17)), .ref (ad L (k+31))]) := by unfold cnt; rw [h]; rfl
theorem cnt_6 {L : Lay} {σ : St} {J : Nat → Nat → Int32} {k : Nat} (h : kd k = 6) : cnt L σ J k = .inr (6, [.ref (ad L (k+1)), .int ((σ k).getD 0 0), .int ((σ k).getD 1 0), .int ((σ k).getD 2 0)]) := by unfold cnt; rw [h]; rfl
theorem cnt_7 {L : Lay} {σ : St} {J : Nat → Nat → Int32} {k : Nat} (h : kd k = 7) : cnt L σ J k = .inr (7, [.ref (ad L 0), .ref (ad L 225), .ref (ad L 227), .ref (ad L 229), .ref (ad L 232), .ref (ad L 235)]) := by unfold cnt; rw [h]; rfl
theorem cnt_9 {L : Lay} {σ : St} {J : Nat → Nat → Int32} {k : Nat} (h : kd k = 9) : cnt L σ J k = .inl (L.2.1, cp (k-1), .inl (ph σ J (k-1))) := by unfold cnt; rw [h]; rfl
theorem cnt_10 {L : Lay} {σ : St} {J : Nat → Nat → Int32} {k : Nat} (h : kd k = 10) : cnt L σ J k = .inl (L.2.2.1, 4, .inr (.inr (.inr (.inr (fun i => some (ad L (45 * ((σ k).getD i 0).toNatClampNeg))))))) := by unfold cnt; rw [h]; rfl
/-- what a change of one name's ints leaves as it was -/
theorem cnt_up {L : Lay} {σ : St} {J : Nat → Nat → Int32} {k j : Nat} {l : List Int32} (hj : j < 245) (h : j ≠ k) (h2 : kd j = 9 → j - 1 ≠ k) : cnt L (up σ k l) J j = cnt L σ J j := by
  rcases kd_in j hj with q | q | q | q | q | q | q | q | q | q
  · rw [cnt_0 q, cnt_0 q, up_n h]
  · rw [cnt_1 q, cnt_1 q]
  · rw [cnt_2 q, cnt_2 q, up_n h]
  · rw [cnt_3 q, cnt_3 q, up_n h]
  · rw [cnt_4 q, cnt_4 q, up_n h]
  · rw [cnt_5 q, cnt_5 q]
  · rw [cnt_6 q, cnt_6 q, up_n h]
  · rw [cnt_7 q, cnt_7 q]
  · rw [cnt_9 q, cnt_9 q]
    unfold ph
    rw [up_n (h2 q)]
  · rw [cnt_10 q, cnt_10 q, up_n h]
theorem cnt_upJ {L : Lay} {σ : St} {J J' : Nat → Nat → Int32} {k j : Nat} {l : List Int32} (hJ : ∀ i, i ≠ k → J' i = J i) (hj : j < 245) (h : j ≠ k) (h2 : kd j = 9 → j - 1 ≠ k) : cnt L (up σ k l) J' j = cnt L σ J j := by
  rw [cnt_up hj h h2]
  by_cases q : kd j = 9
  · rw [cnt_9 q, cnt_9 q]
    unfold ph
    rw [hJ _ (h2 q)]
  · rcases kd_in j hj with r | r | r | r | r | r | r | r | r | r
    · rw [cnt_0 r, cnt_0 r]
    · rw [cnt_1 r, cnt_1 r]
    · rw [cnt_2 r, cnt_2 r]
    · rw [cnt_3 r, cnt_3 r]
    · rw [cnt_4 r, cnt_4 r]
    · rw [cnt_5 r, cnt_5 r]
    · rw [cnt_6 r, cnt_6 r]
    · rw [cnt_7 r, cnt_7 r]
    · exact absurd r q
    · rw [cnt_10 r, cnt_10 r]
end
section
theorem Kn.warm {L : Lay} {s U : State} (hW : s.WarmedH U.vm) (h : Kn L s) : Kn L U := ⟨va_K.moved hW.alike h.1, va_Nw.warmM hW h.2⟩
theorem Kn.same {L : Lay} {s U : State} (hv : s.vm = U.vm) (h : Kn L s) : Kn L U := ⟨va_K.moved (by rw [hv]; exact Vm.Alike.refl U.vm) h.1, va_Nw.same rfl hv h.2⟩
theorem wld_cl0 : vwCl[0]? = some (RX0, TX0, 4) := rfl
theorem blind_bs (as : List Value) (L : Lay) (σ : St) : FrameBlind (va_Pc as (bs L σ)) := fun _ U _ _ q => ⟨q.1, q.2.1, Kn.same (s := U) rfl q.2.2⟩
section QROWS
variable {p : Program} {l : Launch} {e : Env} {R : Room} {s : State} {m : MethodId} {args : Array Value} {below : List Frame} {meth : Method} {c : Code} {H : Heap} {locs : List Loc} {cells slots : Nat} {Q : State → Prop}
variable {cc : ByteArray} {pc nL index : Nat} {own : String} {ls : Array Slot} {rest : List Value} {L : Lay} {H0 : Heap} {σ : St} {k : Nat}
/-- a field of a cell of the class's world -/
theorem gf (S : CallFix p m c cc nL s args qA own) (hK : Kn L s) (h : Hd L H0 H σ locs) {ci N : Nat} {C : String} {T : u_T} (hc : vwCl[ci]? = some (C, T, N)) (hin : ∀ w ∈ u_ws C T N, w ∈ qA) {fs : List Value} (hcnt : ∀ J, cnt L σ J k = .inr (ci, fs)) (hk : k < 245) (f : Nat) (hf : f < N) {v : Value} (hv : fs[f]? = some v)
    (hq : Cond.fieldLink own index C (T f).2.1 (T f).2.2.1 ∈ qA) (hC : (T f).1 = C) (hd : decode cc pc = .ok (.getfield index, 3)) (kk : W p l e R s m args below meth c H locs cells slots Q (F0 m (pc + 3) ls (v :: rest))) : W p l e R s m args below meth c H locs cells slots Q (F0 m pc ls (.ref (ad L k) :: rest)) := by
  obtain ⟨⟨-, J, hP⟩, -⟩ := h
  exact va_get (D := L.1) (ci := ci) S.1 S.2.1 S.2.2.2.2 hin S.2.2.2.1 hK.1 hP k (by rw [wld_at hk, hcnt J]) hc f hf (S.2.2.2.2 _ hq) (fun x hx => by rw [← hC]; exact hx) hv hd kk
theorem g_len (S : CallFix p m c cc nL s args qA own) (hK : Kn L s) (h : Hd L H0 H σ locs) (hk : kd k = 4) (hq : Cond.fieldLink own index "QuantileDigests$Row" "length" "I" ∈ qA) (hd : decode cc pc = .ok (.getfield index, 3)) (kk : W p l e R s m args below meth c H locs cells slots Q (F0 m (pc + 3) ls (.int (nI (σ k).length) :: rest))) : W p l e R s m args below meth c H locs cells slots Q (F0 m pc ls (.ref (ad L k) :: rest)) :=
  gf S hK h (ci := 4) (C := RX4) (T := TX4) (N := 2) rfl i_wsX40 (fun _ => cnt_4 hk) (kd_of hk) 1 (by decide) rfl hq rfl hd kk
theorem g_cells (S : CallFix p m c cc nL s args qA own) (hK : Kn L s) (h : Hd L H0 H σ locs) (hk : kd k = 4) (hq : Cond.fieldLink own index "QuantileDigests$Row" "cells" "[I" ∈ qA) (hd : decode cc pc = .ok (.getfield index, 3)) (kk : W p l e R s m args below meth c H locs cells slots Q (F0 m (pc + 3) ls (.ref (ad L (k+1)) :: rest))) : W p l e R s m args below meth c H locs cells slots Q (F0 m pc ls (.ref (ad L k) :: rest)) :=
  gf S hK h (ci := 4) (C := RX4) (T := TX4) (N := 2) rfl i_wsX40 (fun _ => cnt_4 hk) (kd_of hk) 0 (by decide) rfl hq rfl hd kk
theorem g_heaps (S : CallFix p m c cc nL s args qA own) (hK : Kn L s) (h : Hd L H0 H σ locs) (hk : kd k = 0) (hq : Cond.fieldLink own index "QuantileDigests$Digest" "heaps" "LQuantileDigests$Heaps;" ∈ qA) (hd : decode cc pc = .ok (.getfield index, 3)) (kk : W p l e R s m args below meth c H locs cells slots Q (F0 m (pc + 3) ls (.ref (ad L (k+1)) :: rest))) : W p l e R s m args below meth c H locs cells slots Q (F0 m pc ls (.ref (ad L k) :: rest)) :=
  gf S hK h (ci := 0) (C := RX0) (T := TX0) (N := 4) rfl i_wsX00 (fun _ => cnt_0 hk) (kd_of hk) 0 (by decide) rfl hq rfl hd kk
theorem g_buffer (S : CallFix p m c cc nL s args qA own) (hK : Kn L s) (h : Hd L H0 H σ locs) (hk : kd k = 0) (hq : Cond.fieldLink own index "QuantileDigests$Digest" "buffer" "LQuantileDigests$Row;" ∈ qA) (hd : decode cc pc = .ok (.getfield index, 3)) (kk : W p l e R s m args below meth c H locs cells slots Q (F0 m (pc + 3) ls (.ref (ad L (k+10)) :: rest))) : W p l e R s m args below meth c H locs cells slots Q (F0 m pc ls (.ref (ad L k) :: rest)) :=
  gf S hK h (ci := 0) (C := RX0) (T := TX0) (N := 4) rfl i_wsX00 (fun _ => cnt_0 hk) (kd_of hk) 1 (by decide) rfl hq rfl hd kk
theorem g_values (S : CallFix p m c cc nL s args qA own) (hK : Kn L s) (h : Hd L H0 H σ locs) (hk : kd k = 0) (hq : Cond.fieldLink own index "QuantileDigests$Digest" "values" "LQuantileDigests$Row;" ∈ qA) (hd : decode cc pc = .ok (.getfield index, 3)) (kk : W p l e R s m args below meth c H locs cells slots Q (F0 m (pc + 3) ls (.ref (ad L (k+12)) :: rest))) : W p l e R s m args below meth c H locs cells slots Q (F0 m pc ls (.ref (ad L k) :: rest)) :=
  gf S hK h (ci := 0) (C := RX0) (T := TX0) (N := 4) rfl i_wsX00 (fun _ => cnt_0 hk) (kd_of hk) 2 (by decide) rfl hq rfl hd kk
theorem g_packings (S : CallFix p m c cc nL s args qA own) (hK : Kn L s) (h : Hd L H0 H σ locs) (hk : kd k = 0) (hq : Cond.fieldLink own index "QuantileDigests$Digest" "packings" "I" ∈ qA) (hd : decode cc pc = .ok (.getfield index, 3)) (kk : W p l e R s m args below meth c H locs cells slots Q (F0 m (pc + 3) ls (.int ((σ k).getD 0 0) :: rest))) : W p l e R s m args below meth c H locs cells slots Q (F0 m pc ls (.ref (ad L k) :: rest)) :=
  gf S hK h (ci := 0) (C := RX0) (T := TX0) (N := 4) rfl i_wsX00 (fun _ => cnt_0 hk) (kd_of hk) 3 (by decide) rfl hq rfl hd kk
theorem g_weights (S : CallFix p m c cc nL s args qA own) (hK : Kn L s) (h : Hd L H0 H σ locs) (hk : kd k = 1) (hq : Cond.fieldLink own index "QuantileDigests$Heaps" "weights" "LQuantileDigests$Row;" ∈ qA) (hd : decode cc pc = .ok (.getfield index, 3)) (kk : W p l e R s m args below meth c H locs cells slots Q (F0 m (pc + 3) ls (.ref (ad L (k+1)) :: rest))) : W p l e R s m args below meth c H locs cells slots Q (F0 m pc ls (.ref (ad L k) :: rest)) :=
  gf S hK h (ci := 1) (C := RX1) (T := TX1) (N := 4) rfl i_wsX10 (fun _ => cnt_1 hk) (kd_of hk) 0 (by decide) rfl hq rfl hd kk
theorem g_sums (S : CallFix p m c cc nL s args qA own) (hK : Kn L s) (h : Hd L H0 H σ locs) (hk : kd k = 1) (hq : Cond.fieldLink own index "QuantileDigests$Heaps" "sums" "LQuantileDigests$Row;" ∈ qA) (hd : decode cc pc = .ok (.getfield index, 3)) (kk : W p l e R s m args below meth c H locs cells slots Q (F0 m (pc + 3) ls (.ref (ad L (k+3)) :: rest))) : W p l e R s m args below meth c H locs cells slots Q (F0 m pc ls (.ref (ad L k) :: rest)) :=
  gf S hK h (ci := 1) (C := RX1) (T := TX1) (N := 4) rfl i_wsX10 (fun _ => cnt_1 hk) (kd_of hk) 1 (by decide) rfl hq rfl hd kk
theorem g_leasts (S : CallFix p m c cc nL s args qA own) (hK : Kn L s) (h : Hd L H0 H σ locs) (hk : kd k = 1) (hq : Cond.fieldLink own index "QuantileDigests$Heaps" "leasts" "LQuantileDigests$Row;" ∈ qA) (hd : decode cc pc = .ok (.getfield index, 3)) (kk : W p l e R s m args below meth c H locs cells slots Q (F0 m (pc + 3) ls (.ref (ad L (k+5)) :: rest))) : W p l e R s m args below meth c H locs cells slots Q (F0 m pc ls (.ref (ad L k) :: rest)) :=
  gf S hK h (ci := 1) (C := RX1) (T := TX1) (N := 4) rfl i_wsX10 (fun _ => cnt_1 hk) (kd_of hk) 2 (by decide) rfl hq rfl hd kk
theorem g_greatests (S : CallFix p m c cc nL s args qA own) (hK : Kn L s) (h : Hd L H0 H σ locs) (hk : kd k = 1) (hq : Cond.fieldLink own index "QuantileDigests$Heaps" "greatests" "LQuantileDigests$Row;" ∈ qA) (hd : decode cc pc = .ok (.getfield index, 3)) (kk : W p l e R s m args below meth c H locs cells slots Q (F0 m (pc + 3) ls (.ref (ad L (k+7)) :: rest))) : W p l e R s m args below meth c H locs cells slots Q (F0 m pc ls (.ref (ad L k) :: rest)) :=
  gf S hK h (ci := 1) (C := RX1) (T := TX1) (N := 4) rfl i_wsX10 (fun _ => cnt_1 hk) (kd_of hk) 3 (by decide) rfl hq rfl hd kk
theorem g_states (S : CallFix p m c cc nL s args qA own) (hK : Kn L s) (h : Hd L H0 H σ locs) (hk : kd k = 2) (hq : Cond.fieldLink own index "QuantileDigests$History" "states" "[LQuantileDigests$State;" ∈ qA) (hd : decode cc pc = .ok (.getfield index, 3)) (kk : W p l e R s m args below meth c H locs cells slots Q (F0 m (pc + 3) ls (.ref (ad L (k+1)) :: rest))) : W p l e R s m args below meth c H locs cells slots Q (F0 m pc ls (.ref (ad L k) :: rest)) :=
  gf S hK h (ci := 2) (C := RX2) (T := TX2) (N := 2) rfl i_wsX20 (fun _ => cnt_2 hk) (kd_of hk) 0 (by decide) rfl hq rfl hd kk
theorem g_size (S : CallFix p m c cc nL s args qA own) (hK : Kn L s) (h : Hd L H0 H σ locs) (hk : kd k = 2) (hq : Cond.fieldLink own index "QuantileDigests$History" "size" "I" ∈ qA) (hd : decode cc pc = .ok (.getfield index, 3)) (kk : W p l e R s m args below meth c H locs cells slots Q (F0 m (pc + 3) ls (.int ((σ k).getD 0 0) :: rest))) : W p l e R s m args below meth c H locs cells slots Q (F0 m pc ls (.ref (ad L k) :: rest)) :=
  gf S hK h (ci := 2) (C := RX2) (T := TX2) (N := 2) rfl i_wsX20 (fun _ => cnt_2 hk) (kd_of hk) 1 (by decide) rfl hq rfl hd kk
theorem g_pvals (S : CallFix p m c cc nL s args qA own) (hK : Kn L s) (h : Hd L H0 H σ locs) (hk : kd k = 3) (hq : Cond.fieldLink own index "QuantileDigests$Part" "values" "LQuantileDigests$Row;" ∈ qA) (hd : decode cc pc = .ok (.getfield index, 3)) (kk : W p l e R s m args below meth c H locs cells slots Q (F0 m (pc + 3) ls (.ref (ad L (k+1)) :: rest))) : W p l e R s m args below meth c H locs cells slots Q (F0 m pc ls (.ref (ad L k) :: rest)) :=
  gf S hK h (ci := 3) (C := RX3) (T := TX3) (N := 3) rfl i_wsX30 (fun _ => cnt_3 hk) (kd_of hk) 0 (by decide) rfl hq rfl hd kk
theorem g_digest (S : CallFix p m c cc nL s args qA own) (hK : Kn L s) (h : Hd L H0 H σ locs) (hk : kd k = 3) (hq : Cond.fieldLink own index "QuantileDigests$Part" "digest" "I" ∈ qA) (hd : decode cc pc = .ok (.getfield index, 3)) (kk : W p l e R s m args below meth c H locs cells slots Q (F0 m (pc + 3) ls (.int ((σ k).getD 0 0) :: rest))) : W p l e R s m args below meth c H locs cells slots Q (F0 m pc ls (.ref (ad L k) :: rest)) :=
  gf S hK h (ci := 3) (C := RX3) (T := TX3) (N := 3) rfl i_wsX30 (fun _ => cnt_3 hk) (kd_of hk) 1 (by decide) rfl hq rfl hd kk
theorem g_end (S : CallFix p m c cc nL s args qA own) (hK : Kn L s) (h : Hd L H0 H σ locs) (hk : kd k = 3) (hq : Cond.fieldLink own index "QuantileDigests$Part" "end" "I" ∈ qA) (hd : decode cc pc = .ok (.getfield index, 3)) (kk : W p l e R s m args below meth c H locs cells slots Q (F0 m (pc + 3) ls (.int ((σ k).getD 1 0) :: rest))) : W p l e R s m args below meth c H locs cells slots Q (F0 m pc ls (.ref (ad L k) :: rest)) :=
  gf S hK h (ci := 3) (C := RX3) (T := TX3) (N := 3) rfl i_wsX30 (fun _ => cnt_3 hk) (kd_of hk) 2 (by decide) rfl hq rfl hd kk
theorem g_settings (S : CallFix p m c cc nL s args qA own) (hK : Kn L s) (h : Hd L H0 H σ locs) (hk : kd k = 5) (hq : Cond.fieldLink own index "QuantileDigests$State" "settings" "LQuantileDigests$Row;" ∈ qA) (hd : decode cc pc = .ok (.getfield index, 3)) (kk : W p l e R s m args below meth c H locs cells slots Q (F0 m (pc + 3) ls (.ref (ad L (k+1)) :: rest))) : W p l e R s m args below meth c H locs cells slots Q (F0 m pc ls (.ref (ad L k) :: rest)) :=
  gf S hK h (ci := 5) (C := RX5) (T := TX5) (N := 4) rfl i_wsX50 (fun _ => cnt_5 hk) (kd_of hk) 0 (by decide) rfl hq rfl hd kk
theorem g_first (S : CallFix p m c cc nL s args qA own) (hK : Kn L s) (h : Hd L H0 H σ locs) (hk : kd k = 5) (hq : Cond.fieldLink own index "QuantileDigests$State" "first" "LQuantileDigests$Digest;" ∈ qA) (hd : decode cc pc = .ok (.getfield index, 3)) (kk : W p l e R s m args below meth c H locs cells slots Q (F0 m (pc + 3) ls (.ref (ad L (k+3)) :: rest))) : W p l e R s m args below meth c H locs cells slots Q (F0 m pc ls (.ref (ad L k) :: rest)) :=
  gf S hK h (ci := 5) (C := RX5) (T := TX5) (N := 4) rfl i_wsX50 (fun _ => cnt_5 hk) (kd_of hk) 1 (by decide) rfl hq rfl hd kk
theorem g_second (S : CallFix p m c cc nL s args qA own) (hK : Kn L s) (h : Hd L H0 H σ locs) (hk : kd k = 5) (hq : Cond.fieldLink own index "QuantileDigests$State" "second" "LQuantileDigests$Digest;" ∈ qA) (hd : decode cc pc = .ok (.getfield index, 3)) (kk : W p l e R s m args below meth c H locs cells slots Q (F0 m (pc + 3) ls (.ref (ad L (k+17)) :: rest))) : W p l e R s m args below meth c H locs cells slots Q (F0 m pc ls (.ref (ad L k) :: rest)) :=
  gf S hK h (ci := 5) (C := RX5) (T := TX5) (N := 4) rfl i_wsX50 (fun _ => cnt_5 hk) (kd_of hk) 2 (by decide) rfl hq rfl hd kk
theorem g_third (S : CallFix p m c cc nL s args qA own) (hK : Kn L s) (h : Hd L H0 H σ locs) (hk : kd k = 5) (hq : Cond.fieldLink own index "QuantileDigests$State" "third" "LQuantileDigests$Digest;" ∈ qA) (hd : decode cc pc = .ok (.getfield index, 3)) (kk : W p l e R s m args below meth c H locs cells slots Q (F0 m (pc + 3) ls (.ref (ad L (k+31)) :: rest))) : W p l e R s m args below meth c H locs cells slots Q (F0 m pc ls (.ref (ad L k) :: rest)) :=
  gf S hK h (ci := 5) (C := RX5) (T := TX5) (N := 4) rfl i_wsX50 (fun _ => cnt_5 hk) (kd_of hk) 3 (by decide) rfl hq rfl hd kk
theorem g_tweights (S : CallFix p m c cc nL s args qA own) (hK : Kn L s) (h : Hd L H0 H σ locs) (hk : kd k = 6) (hq : Cond.fieldLink own index "QuantileDigests$TextFault" "weights" "LQuantileDigests$Row;" ∈ qA) (hd : decode cc pc = .ok (.getfield index, 3)) (kk : W p l e R s m args below meth c H locs cells slots Q (F0 m (pc + 3) ls (.ref (ad L (k+1)) :: rest))) : W p l e R s m args below meth c H locs cells slots Q (F0 m pc ls (.ref (ad L k) :: rest)) :=
  gf S hK h (ci := 6) (C := RX6) (T := TX6) (N := 4) rfl i_wsX60 (fun _ => cnt_6 hk) (kd_of hk) 0 (by decide) rfl hq rfl hd kk
theorem g_position (S : CallFix p m c cc nL s args qA own) (hK : Kn L s) (h : Hd L H0 H σ locs) (hk : kd k = 6) (hq : Cond.fieldLink own index "QuantileDigests$TextFault" "position" "I" ∈ qA) (hd : decode cc pc = .ok (.getfield index, 3)) (kk : W p l e R s m args below meth c H locs cells slots Q (F0 m (pc + 3) ls (.int ((σ k).getD 0 0) :: rest))) : W p l e R s m args below meth c H locs cells slots Q (F0 m pc ls (.ref (ad L k) :: rest)) :=
  gf S hK h (ci := 6) (C := RX6) (T := TX6) (N := 4) rfl i_wsX60 (fun _ => cnt_6 hk) (kd_of hk) 1 (by decide) rfl hq rfl hd kk
theorem g_reason (S : CallFix p m c cc nL s args qA own) (hK : Kn L s) (h : Hd L H0 H σ locs) (hk : kd k = 6) (hq : Cond.fieldLink own index "QuantileDigests$TextFault" "reason" "I" ∈ qA) (hd : decode cc pc = .ok (.getfield index, 3)) (kk : W p l e R s m args below meth c H locs cells slots Q (F0 m (pc + 3) ls (.int ((σ k).getD 1 0) :: rest))) : W p l e R s m args below meth c H locs cells slots Q (F0 m pc ls (.ref (ad L k) :: rest)) :=
  gf S hK h (ci := 6) (C := RX6) (T := TX6) (N := 4) rfl i_wsX60 (fun _ => cnt_6 hk) (kd_of hk) 2 (by decide) rfl hq rfl hd kk
theorem g_cause (S : CallFix p m c cc nL s args qA own) (hK : Kn L s) (h : Hd L H0 H σ locs) (hk : kd k = 6) (hq : Cond.fieldLink own index "QuantileDigests$TextFault" "cause" "I" ∈ qA) (hd : decode cc pc = .ok (.getfield index, 3)) (kk : W p l e R s m args below meth c H locs cells slots Q (F0 m (pc + 3) ls (.int ((σ k).getD 2 0) :: rest))) : W p l e R s m args below meth c H locs cells slots Q (F0 m pc ls (.ref (ad L k) :: rest)) :=
  gf S hK h (ci := 6) (C := RX6) (T := TX6) (N := 4) rfl i_wsX60 (fun _ => cnt_6 hk) (kd_of hk) 3 (by decide) rfl hq rfl hd kk
theorem g_main (S : CallFix p m c cc nL s args qA own) (hK : Kn L s) (h : Hd L H0 H σ locs) (hk : kd k = 7) (f t : Nat) {n d : String} (hf : f < 6) (ht : ([.ref (ad L 0), .ref (ad L 225), .ref (ad L 227), .ref (ad L 229), .ref (ad L 232), .ref (ad L 235)] : List Value)[f]? = some (.ref (ad L t))) (hn : TX7 f = ("QuantileDigests", n, d, true)) (hq : Cond.fieldLink own index "QuantileDigests" n d ∈ qA) (hd : decode cc pc = .ok (.getfield index, 3)) (kk : W p l e R s m args below meth c H locs cells slots Q (F0 m (pc + 3) ls (.ref (ad L t) :: rest))) : W p l e R s m args below meth c H locs cells slots Q (F0 m pc ls (.ref (ad L k) :: rest)) :=
  gf S hK h (ci := 7) (C := RX7) (T := TX7) (N := 6) rfl i_wsX70 (fun _ => cnt_7 hk) (kd_of hk) f hf ht (by rw [hn]; exact hq) (by rw [hn]; rfl) hd kk
end QROWS
end
section
section QROWS2
variable {p : Program} {l : Launch} {e : Env} {R : Room} {s : State} {m : MethodId} {args : Array Value} {below : List Frame} {meth : Method} {c : Code} {H : Heap} {locs : List Loc} {cells slots : Nat} {Q : State → Prop}
variable {cc : ByteArray} {pc nL index : Nat} {own : String} {ls : Array Slot} {rest : List Value} {L : Lay} {H0 : Heap} {σ : St} {k : Nat}
def HdJ (L : Lay) (H0 H : Heap) (σ : St) (J : Nat → Nat → Int32) (locs : List Loc) : Prop := wok σ ∧ va_P L.1 vwCl (wld L σ J) H ∧ va_S (Aw L) H0 H locs
theorem HdJ.hd {J : Nat → Nat → Int32} (h : HdJ L H0 H σ J locs) : Hd L H0 H σ locs := ⟨⟨h.1, J, h.2.1⟩, h.2.2⟩
theorem Hd.J (h : Hd L H0 H σ locs) : ∃ J, HdJ L H0 H σ J locs := by
  obtain ⟨⟨a, J, b⟩, d⟩ := h
  exact ⟨J, a, b, d⟩
theorem Hd.ok (h : Hd L H0 H σ locs) : wok σ := h.1.1
theorem wok_up {l' : List Int32} (h : wok σ) (hl : kd k = 4 → l'.length ≤ cp k) : wok (up σ k l') := by
  intro j hj
  by_cases q : j = k
  · subst q
    rw [up_s]
    exact hl hj
  · rw [up_n q]
    exact h j hj
theorem wok_upn {l' : List Int32} (h : wok σ) (hk : kd k ≠ 4) : wok (up σ k l') := wok_up h (fun q => absurd q hk)
theorem wok.len (h : wok σ) (hk : kd k = 4) : (σ k).length ≤ 200 := Nat.le_trans (h k hk) (cp_le k (kd_of hk))
/-- a field is written -/
theorem pf (S : CallFix p m c cc nL s args qA own) (hI : Inj L) (hK : Kn L s) {J J' : Nat → Nat → Int32} (h : HdJ L H0 H σ J locs) {ci N : Nat} {C : String} {T : u_T} (hc : vwCl[ci]? = some (C, T, N)) (hin : ∀ w ∈ u_ws C T N, w ∈ qA) (ty0 : Nat → FieldType) (hty : ∀ k, k < N → parseFieldDescriptor (T k).2.2.1 = some (ty0 k)) (hnm : ∀ a, a < N → ∀ b, b < N → a ≠ b → (T a).2.1 ≠ (T b).2.1) {fs : List Value} (hcnt : cnt L σ J k = .inr (ci, fs)) (hk : k < 245) (f : Nat) (hf : f < N) {v : Value} {ty : FieldType} (hpd : parseFieldDescriptor (T f).2.2.1 = some ty) (hn : narrow ty v = v) (hfit : fits ty v = true) (hfin : (T f).2.2.2 = false) (hl : f < fs.length)
    {σ' : St} (hok : wok σ') (h1 : cnt L σ' J' k = .inr (ci, fs.set f v)) (h2 : ∀ j, j < 245 → j ≠ k → cnt L σ' J' j = cnt L σ J j)
    (hq : Cond.fieldLink own index C (T f).2.1 (T f).2.2.1 ∈ qA) (hC : (T f).1 = C) (hd : decode cc pc = .ok (.putfield index, 3)) (kk : ∀ (H1 : Heap) (locs1 : List Loc), HdJ L H0 H1 σ' J' locs1 → W p l e R s m args below meth c H1 locs1 cells slots Q (F0 m (pc + 3) ls rest)) : W p l e R s m args below meth c H locs cells slots Q (F0 m pc ls (v :: .ref (ad L k) :: rest)) := by
  obtain ⟨-, hP, hS⟩ := h
  refine va_put (D := L.1) (ci := ci) (ty := ty) S.1 S.2.1 S.2.2.2.2 hin ty0 hty hnm S.2.2.2.1 hK.1 hP (hI.D σ J) hS k (by rw [wld_at hk, hcnt]) hc f hf (S.2.2.2.2 _ hq) (fun x hx => by rw [← hC]; exact hx) hfin hpd hn hfit hl hd (fun H1 locs1 hP1 _ hS1 => kk H1 locs1 ⟨hok, ?_, hS1⟩)
  rw [wld_set hk h1 h2] at hP1
  exact hP1
theorem cnt_upo {J : Nat → Nat → Int32} {l' : List Int32} (hk : kd k ≠ 4) : ∀ j, j < 245 → j ≠ k → cnt L (up σ k l') J j = cnt L σ J j := by
  intro j hj hjk
  refine cnt_up hj hjk (fun h9 q => ?_)
  have := kd_9 j hj h9
  rw [q] at this
  exact hk this.2
theorem p_packings {x : Int32} (S : CallFix p m c cc nL s args qA own) (hI : Inj L) (hK : Kn L s) (h : Hd L H0 H σ locs) (hk : kd k = 0) (hq : Cond.fieldLink own index "QuantileDigests$Digest" "packings" "I" ∈ qA) (hd : decode cc pc = .ok (.putfield index, 3)) (kk : ∀ (H1 : Heap) (locs1 : List Loc), Hd L H0 H1 (up σ k [x]) locs1 → W p l e R s m args below meth c H1 locs1 cells slots Q (F0 m (pc + 3) ls rest)) : W p l e R s m args below meth c H locs cells slots Q (F0 m pc ls (.int x :: .ref (ad L k) :: rest)) := by
  obtain ⟨J, hJ⟩ := h.J
  exact pf S hI hK (J' := J) hJ (ci := 0) (C := RX0) (T := TX0) (N := 4) (ty := .int) rfl i_wsX00 tyX0 tyX0_ok nmX0 (cnt_0 hk) (kd_of hk) 3 (by decide) (by decide +kernel) rfl rfl rfl (by simp) (wok_upn h.ok (by omega)) (by rw [cnt_0 hk, up_s]; rfl) (cnt_upo (by omega)) hq rfl hd (fun H1 locs1 h1 => kk H1 locs1 h1.hd)
theorem p_size {x : Int32} (S : CallFix p m c cc nL s args qA own) (hI : Inj L) (hK : Kn L s) (h : Hd L H0 H σ locs) (hk : kd k = 2) (hq : Cond.fieldLink own index "QuantileDigests$History" "size" "I" ∈ qA) (hd : decode cc pc = .ok (.putfield index, 3)) (kk : ∀ (H1 : Heap) (locs1 : List Loc), Hd L H0 H1 (up σ k [x]) locs1 → W p l e R s m args below meth c H1 locs1 cells slots Q (F0 m (pc + 3) ls rest)) : W p l e R s m args below meth c H locs cells slots Q (F0 m pc ls (.int x :: .ref (ad L k) :: rest)) := by
  obtain ⟨J, hJ⟩ := h.J
  exact pf S hI hK (J' := J) hJ (ci := 2) (C := RX2) (T := TX2) (N := 2) (ty := .int) rfl i_wsX20 tyX2 tyX2_ok nmX2 (cnt_2 hk) (kd_of hk) 1 (by decide) (by decide +kernel) rfl rfl rfl (by simp) (wok_upn h.ok (by omega)) (by rw [cnt_2 hk, up_s]; rfl) (cnt_upo (by omega)) hq rfl hd (fun H1 locs1 h1 => kk H1 locs1 h1.hd)
theorem p_digest {x : Int32} (S : CallFix p m c cc nL s args qA own) (hI : Inj L) (hK : Kn L s) (h : Hd L H0 H σ locs) (hk : kd k = 3) (hq : Cond.fieldLink own index "QuantileDigests$Part" "digest" "I" ∈ qA) (hd : decode cc pc = .ok (.putfield index, 3)) (kk : ∀ (H1 : Heap) (locs1 : List Loc), Hd L H0 H1 (up σ k [x, (σ k).getD 1 0]) locs1 → W p l e R s m args below meth c H1 locs1 cells slots Q (F0 m (pc + 3) ls rest)) : W p l e R s m args below meth c H locs cells slots Q (F0 m pc ls (.int x :: .ref (ad L k) :: rest)) := by
  obtain ⟨J, hJ⟩ := h.J
  exact pf S hI hK (J' := J) hJ (ci := 3) (C := RX3) (T := TX3) (N := 3) (ty := .int) rfl i_wsX30 tyX3 tyX3_ok nmX3 (cnt_3 hk) (kd_of hk) 1 (by decide) (by decide +kernel) rfl rfl rfl (by simp) (wok_upn h.ok (by omega)) (by rw [cnt_3 hk, up_s]; rfl) (cnt_upo (by omega)) hq rfl hd (fun H1 locs1 h1 => kk H1 locs1 h1.hd)
theorem p_end {x : Int32} (S : CallFix p m c cc nL s args qA own) (hI : Inj L) (hK : Kn L s) (h : Hd L H0 H σ locs) (hk : kd k = 3) (hq : Cond.fieldLink own index "QuantileDigests$Part" "end" "I" ∈ qA) (hd : decode cc pc = .ok (.putfield index, 3)) (kk : ∀ (H1 : Heap) (locs1 : List Loc), Hd L H0 H1 (up σ k [(σ k).getD 0 0, x]) locs1 → W p l e R s m args below meth c H1 locs1 cells slots Q (F0 m (pc + 3) ls rest)) : W p l e R s m args below meth c H locs cells slots Q (F0 m pc ls (.int x :: .ref (ad L k) :: rest)) := by
  obtain ⟨J, hJ⟩ := h.J
  exact pf S hI hK (J' := J) hJ (ci := 3) (C := RX3) (T := TX3) (N := 3) (ty := .int) rfl i_wsX30 tyX3 tyX3_ok nmX3 (cnt_3 hk) (kd_of hk) 2 (by decide) (by decide +kernel) rfl rfl rfl (by simp) (wok_upn h.ok (by omega)) (by rw [cnt_3 hk, up_s]; rfl) (cnt_upo (by omega)) hq rfl hd (fun H1 locs1 h1 => kk H1 locs1 h1.hd)
theorem p_position {x : Int32} (S : CallFix p m c cc nL s args qA own) (hI : Inj L) (hK : Kn L s) (h : Hd L H0 H σ locs) (hk : kd k = 6) (hq : Cond.fieldLink own index "QuantileDigests$TextFault" "position" "I" ∈ qA) (hd : decode cc pc = .ok (.putfield index, 3)) (kk : ∀ (H1 : Heap) (locs1 : List Loc), Hd L H0 H1 (up σ k [x, (σ k).getD 1 0, (σ k).getD 2 0]) locs1 → W p l e R s m args below meth c H1 locs1 cells slots Q (F0 m (pc + 3) ls rest)) : W p l e R s m args below meth c H locs cells slots Q (F0 m pc ls (.int x :: .ref (ad L k) :: rest)) := by
  obtain ⟨J, hJ⟩ := h.J
  exact pf S hI hK (J' := J) hJ (ci := 6) (C := RX6) (T := TX6) (N := 4) (ty := .int) rfl i_wsX60 tyX6 tyX6_ok nmX6 (cnt_6 hk) (kd_of hk) 1 (by decide) (by decide +kernel) rfl rfl rfl (by simp) (wok_upn h.ok (by omega)) (by rw [cnt_6 hk, up_s]; rfl) (cnt_upo (by omega)) hq rfl hd (fun H1 locs1 h1 => kk H1 locs1 h1.hd)
theorem p_reason {x : Int32} (S : CallFix p m c cc nL s args qA own) (hI : Inj L) (hK : Kn L s) (h : Hd L H0 H σ locs) (hk : kd k = 6) (hq : Cond.fieldLink own index "QuantileDigests$TextFault" "reason" "I" ∈ qA) (hd : decode cc pc = .ok (.putfield index, 3)) (kk : ∀ (H1 : Heap) (locs1 : List Loc), Hd L H0 H1 (up σ k [(σ k).getD 0 0, x, (σ k).getD 2 0]) locs1 → W p l e R s m args below meth c H1 locs1 cells slots Q (F0 m (pc + 3) ls rest)) : W p l e R s m args below meth c H locs cells slots Q (F0 m pc ls (.int x :: .ref (ad L k) :: rest)) := by
  obtain ⟨J, hJ⟩ := h.J
  exact pf S hI hK (J' := J) hJ (ci := 6) (C := RX6) (T := TX6) (N := 4) (ty := .int) rfl i_wsX60 tyX6 tyX6_ok nmX6 (cnt_6 hk) (kd_of hk) 2 (by decide) (by decide +kernel) rfl rfl rfl (by simp) (wok_upn h.ok (by omega)) (by rw [cnt_6 hk, up_s]; rfl) (cnt_upo (by omega)) hq rfl hd (fun H1 locs1 h1 => kk H1 locs1 h1.hd)
theorem p_cause {x : Int32} (S : CallFix p m c cc nL s args qA own) (hI : Inj L) (hK : Kn L s) (h : Hd L H0 H σ locs) (hk : kd k = 6) (hq : Cond.fieldLink own index "QuantileDigests$TextFault" "cause" "I" ∈ qA) (hd : decode cc pc = .ok (.putfield index, 3)) (kk : ∀ (H1 : Heap) (locs1 : List Loc), Hd L H0 H1 (up σ k [(σ k).getD 0 0, (σ k).getD 1 0, x]) locs1 → W p l e R s m args below meth c H1 locs1 cells slots Q (F0 m (pc + 3) ls rest)) : W p l e R s m args below meth c H locs cells slots Q (F0 m pc ls (.int x :: .ref (ad L k) :: rest)) := by
  obtain ⟨J, hJ⟩ := h.J
  exact pf S hI hK (J' := J) hJ (ci := 6) (C := RX6) (T := TX6) (N := 4) (ty := .int) rfl i_wsX60 tyX6 tyX6_ok nmX6 (cnt_6 hk) (kd_of hk) 3 (by decide) (by decide +kernel) rfl rfl rfl (by simp) (wok_upn h.ok (by omega)) (by rw [cnt_6 hk, up_s]; rfl) (cnt_upo (by omega)) hq rfl hd (fun H1 locs1 h1 => kk H1 locs1 h1.hd)
/-- the length of a row is written: what the row then holds is what its array holds -/
theorem p_lenJ {n : Nat} (S : CallFix p m c cc nL s args qA own) (hI : Inj L) (hK : Kn L s) {J : Nat → Nat → Int32} (h : HdJ L H0 H σ J locs) (hk : kd k = 4) (hn : n ≤ cp k) {l' : List Int32} (hl : l' = (List.range n).map (ph σ J k)) (hq : Cond.fieldLink own index "QuantileDigests$Row" "length" "I" ∈ qA) (hd : decode cc pc = .ok (.putfield index, 3)) (kk : ∀ (H1 : Heap) (locs1 : List Loc), Hd L H0 H1 (up σ k l') locs1 → W p l e R s m args below meth c H1 locs1 cells slots Q (F0 m (pc + 3) ls rest)) : W p l e R s m args below meth c H locs cells slots Q (F0 m pc ls (.int (nI n) :: .ref (ad L k) :: rest)) := by
  have hll : l'.length = n := by rw [hl]; simp
  have hph : ph (up σ k l') (fun i => if i = k then ph σ J k else J i) k = ph σ J k := by
    funext i
    by_cases hi : i < n
    · rw [ph, if_pos (by rw [up_s, hll]; exact hi), up_s, hl, List.getD_eq_getElem?_getD, List.getElem?_map, List.getElem?_range hi]
      rfl
    · rw [ph, if_neg (by rw [up_s, hll]; exact hi), if_pos rfl]
  refine pf S hI hK (J' := fun i => if i = k then ph σ J k else J i) h (ci := 4) (C := RX4) (T := TX4) (N := 2) (ty := .int) rfl i_wsX40 tyX4 tyX4_ok nmX4 (cnt_4 hk) (kd_of hk) 1 (by decide) (by decide +kernel) rfl rfl rfl (by simp) (wok_up h.1 (fun _ => by omega)) (by rw [cnt_4 hk, up_s, hll]; rfl) (fun j hj hjk => ?_) hq rfl hd (fun H1 locs1 h1 => kk H1 locs1 h1.hd)
  by_cases h9 : kd j = 9 ∧ j - 1 = k
  · rw [cnt_9 h9.1, cnt_9 h9.1, h9.2, hph]
  · exact cnt_upJ (fun i hi => if_neg hi) hj hjk (fun a b => h9 ⟨a, b⟩)
/-- an element of a row's array is written, below its length -/
theorem p_set {i : Nat} {x : Int32} (S : CallFix p m c cc nL s args qA own) (hI : Inj L) (hK : Kn L s) (h : Hd L H0 H σ locs) (hk : kd k = 4) (hi : i < (σ k).length) (hd : decode cc pc = .ok (.iastore, 1)) (kk : ∀ (H1 : Heap) (locs1 : List Loc), Hd L H0 H1 (up σ k ((σ k).set i x)) locs1 → W p l e R s m args below meth c H1 locs1 cells slots Q (F0 m (pc + 1) ls rest)) : W p l e R s m args below meth c H locs cells slots Q (F0 m pc ls (.int x :: .int (nI i) :: .ref (ad L (k+1)) :: rest)) := by
  obtain ⟨J, hJ⟩ := h.J
  have h9 := kd_4n k (kd_of hk) hk
  have hc := h.ok k hk
  have h200 := h.ok.len hk
  refine va_iast (D := L.1) (n := cp k) (f := ph σ J k) S.1 S.2.1 hK.1 hJ.2.1 (hI.D σ J) hJ.2.2 (k+1) 0 (by rw [wld_at h9.2, cnt_9 h9.1]; rfl) rfl (vp_in_nI (by omega) (by have := cp_le k (kd_of hk); omega)) hd (fun H1 locs1 hP1 _ hS1 => kk H1 locs1 ⟨⟨wok_up h.ok (fun _ => by rw [List.length_set]; exact hc), J, ?_⟩, hS1⟩)
  rw [nI_clamp (by omega)] at hP1
  rw [wld_set (σ' := up σ k ((σ k).set i x)) (J' := J) h9.2 ?_ ?_] at hP1
  · exact hP1
  · rw [cnt_9 h9.1]
    simp only [Nat.add_sub_cancel]
    congr 4
    funext j
    unfold ph upd
    rw [up_s, List.length_set]
    by_cases hj : j < (σ k).length
    · rw [if_pos hj]
      show _ = if j = i then x else (if j < (σ k).length then (σ k).getD j 0 else J k j)
      by_cases hji : j = i
      · subst hji
        rw [if_pos rfl, List.getD_eq_getElem?_getD, List.getElem?_set_self hj]
        rfl
      · rw [if_neg hji, if_pos hj, List.getD_eq_getElem?_getD, List.getD_eq_getElem?_getD, List.getElem?_set_ne (Ne.symm hji)]
    · show _ = if j = i then x else (if j < (σ k).length then (σ k).getD j 0 else J k j)
      rw [if_neg hj, if_neg (by omega), if_neg hj]
  · intro j hj hjk
    by_cases hjk2 : j = k
    · subst hjk2
      rw [cnt_4 hk, cnt_4 hk, up_s, List.length_set]
    · exact cnt_up hj hjk2 (fun _ q => hjk (by omega))
/-- an element of a row's array is written, at its length or behind -/
theorem p_setJ {i : Nat} {x : Int32} (S : CallFix p m c cc nL s args qA own) (hI : Inj L) (hK : Kn L s) {J : Nat → Nat → Int32} (h : HdJ L H0 H σ J locs) (hk : kd k = 4) (hi : (σ k).length ≤ i) (hi2 : i < cp k) (hd : decode cc pc = .ok (.iastore, 1)) (kk : ∀ (H1 : Heap) (locs1 : List Loc), HdJ L H0 H1 σ (fun q => if q = k then upd (J k) i x else J q) locs1 → W p l e R s m args below meth c H1 locs1 cells slots Q (F0 m (pc + 1) ls rest)) : W p l e R s m args below meth c H locs cells slots Q (F0 m pc ls (.int x :: .int (nI i) :: .ref (ad L (k+1)) :: rest)) := by
  have h9 := kd_4n k (kd_of hk) hk
  refine va_iast (D := L.1) (n := cp k) (f := ph σ J k) S.1 S.2.1 hK.1 h.2.1 (hI.D σ J) h.2.2 (k+1) 0 (by rw [wld_at h9.2, cnt_9 h9.1]; rfl) rfl (vp_in_nI (by omega) (by have := cp_le k (kd_of hk); omega)) hd (fun H1 locs1 hP1 _ hS1 => kk H1 locs1 ⟨h.1, ?_, hS1⟩)
  have hcp := cp_le k (kd_of hk)
  rw [nI_clamp (by omega)] at hP1
  rw [wld_set (σ' := σ) (J' := fun q => if q = k then upd (J k) i x else J q) h9.2 ?_ ?_] at hP1
  · exact hP1
  · rw [cnt_9 h9.1]
    simp only [Nat.add_sub_cancel]
    congr 4
    funext j
    unfold ph
    by_cases hj : j < (σ k).length
    · rw [if_pos hj, upd, if_neg (by omega), if_pos hj]
    · rw [if_neg hj]
      show (if k = k then upd (J k) i x else J k) j = if j = i then x else (if j < (σ k).length then (σ k).getD j 0 else J k j)
      rw [if_pos rfl, if_neg hj]
      rfl
  · intro j hj hjk
    have e : up σ k (σ k) = σ := up_id rfl
    have hz : ∀ i', i' ≠ k → (fun q => if q = k then upd (J k) i x else J q) i' = J i' := fun i' hi' => if_neg hi'
    by_cases hjk2 : j = k
    · subst hjk2
      rw [cnt_4 hk, cnt_4 hk]
    · have := cnt_upJ (L := L) (σ := σ) (l := σ k) hz hj hjk2 (fun _ q => hjk (by omega))
      rw [e] at this
      exact this
/-- an element of a row's array is read, below its length -/
theorem g_el {i : Nat} (S : CallFix p m c cc nL s args qA own) (hK : Kn L s) (h : Hd L H0 H σ locs) (hk : kd k = 4) (hi : i < (σ k).length) (hd : decode cc pc = .ok (.iaload, 1)) (kk : W p l e R s m args below meth c H locs cells slots Q (F0 m (pc + 1) ls (.int ((σ k).getD i 0) :: rest))) : W p l e R s m args below meth c H locs cells slots Q (F0 m pc ls (.int (nI i) :: .ref (ad L (k+1)) :: rest)) := by
  obtain ⟨J, hJ⟩ := h.J
  have h9 := kd_4n k (kd_of hk) hk
  have hc := h.ok k hk
  have h200 := h.ok.len hk
  refine va_iald (D := L.1) (n := cp k) (f := ph σ J k) S.1 S.2.1 hK.1 hJ.2.1 (k+1) 0 (by rw [wld_at h9.2, cnt_9 h9.1]; rfl) rfl (vp_in_nI (by omega) (by have := cp_le k (kd_of hk); omega)) hd ?_
  rw [nI_clamp (by omega), ph, if_pos hi]
  exact kk
theorem g_alen (S : CallFix p m c cc nL s args qA own) (hK : Kn L s) (h : Hd L H0 H σ locs) (hk : kd k = 4) (hd : decode cc pc = .ok (.arraylength, 1)) (kk : W p l e R s m args below meth c H locs cells slots Q (F0 m (pc + 1) ls (.int (nI (cp k)) :: rest))) : W p l e R s m args below meth c H locs cells slots Q (F0 m pc ls (.ref (ad L (k+1)) :: rest)) := by
  obtain ⟨J, hJ⟩ := h.J
  have h9 := kd_4n k (kd_of hk) hk
  exact va_alen (D := L.1) (x := (cp k, .inl (ph σ J k))) S.1 S.2.1 hK.1 hJ.2.1 (k+1) 0 (by rw [wld_at h9.2, cnt_9 h9.1]; rfl) rfl rfl hd kk
end QROWS2
end
section
section QCALLS
variable {p : Program} {l : Launch} {e : Env} {R : Room} {s : State} {m : MethodId} {args : Array Value} {below : List Frame} {meth : Method} {c : Code} {H : Heap} {locs : List Loc} {cells slots : Nat} {Q : State → Prop}
variable {cc : ByteArray} {pc nL index : Nat} {own : String} {ls : Array Slot} {rest st0 : List Value} {L : Lay} {H0 : Heap} {σ : St} {k : Nat}
theorem va_callg {S : Type} {post : Option Value → S → Prop} {B : S → State → Prop} {a : Array Value} {A0 A1 : Nat → Prop} {mc ms : Nat} {free : Addr → Prop} (hr : va_Run p l e R s m args below meth c H locs cells slots mc ms (F0 m pc ls st0) rest (Qg post B A1 a) free) (hS : va_S A0 H0 H locs) (hA : ∀ q, q < H.size → A1 q → A0 q) (hf : ∀ q, free q → A0 q)
    (kk : ∀ (r : Option Value) (u : S) (t : State) (H1 : Heap) (locs1 : List Loc), t.heap = H1 → s.vm.Alike t.vm → post r u → B u t → H.size ≤ H1.size → (∀ q : Nat, q < H.size → ¬ A1 q → H1[q]? = H[q]?) → va_S A0 H0 H1 locs1 → W p l e R s m args below meth c H1 locs1 (cells + mc) (slots + ms) Q (F0 m (pc + 3) ls (r.toList ++ rest))) : W p l e R s m args below meth c H locs cells slots Q (F0 m pc ls st0) := by
  intro T hT X
  obtain ⟨v, st₀, t, T', L, h0, X', hL, e1, e2, ⟨⟨r, u, hv, hp, hb⟩, hz, hk⟩, st⟩ := hr T hT X
  cases hv
  rw [h0] at hz hk
  obtain ⟨t2, a1, b1⟩ := kk v u t T'.heap (locs ++ L) e1.symm (by rw [← e2]; exact X'.warmed.alike) hp hb (by rw [e1]; exact hz) (fun q h1 h2 => by rw [e1]; exact hk q h1 h2)
    ⟨Nat.le_trans hS.1 (by rw [e1]; exact hz), fun q h1 h2 => by rw [e1, hk q (Nat.lt_of_lt_of_le h1 hS.1) (fun z => h2 (hA q (Nat.lt_of_lt_of_le h1 hS.1) z))]; exact hS.2.1 q h1 h2, fun q hq => by
      rcases List.mem_append.mp hq with h | h
      · exact hS.2.2 q h
      · exact hf _ (hL q h)⟩ T' rfl X'
  exact ⟨t2, st t2 a1, b1⟩
theorem good_tail {ws : List Cond} (hw : ∀ w ∈ ws, w ∈ qA) : GoodIn qA (ws ++ qA) := fun w h => by
  have hm : w ∈ qA := (List.mem_append.mp h).elim (hw w) id
  exact ⟨hm, good_of_word (qA_good hm)⟩
theorem good_V {C : String} {y : MethodName} {bytes : ByteArray} {n : Nat} {ret : Option FieldType} (w1 : Cond.methodLink own index y ∈ qA) (w2 : Cond.instanceMethod y ∈ qA) (w3 : Cond.selects C y y ∈ qA) (w4 : Cond.initialized C ∈ qA) (w5 : Cond.code y bytes n ret ∈ qA) : GoodIn qA (wsV own index C y (Cond.code y bytes n ret :: qA)) := by
  have := good_tail (ws := [.methodLink own index y, .instanceMethod y, .selects C y y, .initialized C, .code y bytes n ret]) (fun w h => by
    simp only [List.mem_cons, List.not_mem_nil, or_false] at h
    rcases h with rfl | rfl | rfl | rfl | rfl <;> assumption)
  exact this
theorem good_S {y : MethodName} {bytes : ByteArray} {n : Nat} {ret : Option FieldType} (w1 : Cond.methodLink own index y ∈ qA) (w2 : Cond.static y ∈ qA) (w4 : Cond.initialized own ∈ qA) (w5 : Cond.code y bytes n ret ∈ qA) : GoodIn qA (wsS own index y (Cond.code y bytes n ret :: qA)) := by
  have := good_tail (ws := [.methodLink own index y, .static y, .initialized own, .code y bytes n ret]) (fun w h => by
    simp only [List.mem_cons, List.not_mem_nil, or_false] at h
    rcases h with rfl | rfl | rfl | rfl <;> assumption)
  exact this
theorem good_C {y : MethodName} {bytes : ByteArray} {n : Nat} {ret : Option FieldType} (w5 : Cond.code y bytes n ret ∈ qA) : GoodIn qA (Cond.code y bytes n ret :: qA) := good_tail (ws := [.code y bytes n ret]) (fun w h => by
    simp only [List.mem_cons, List.not_mem_nil, or_false] at h
    rcases h with rfl; assumption)
/-- what a call needs of the machine's room -/
abbrev rmFit (rm R : Room) (maxL cells slots : Nat) : Prop := (rm.cells = 0 ∧ rm.slots = 0) ∧ (rm.frames + 1 ≤ R.frames ∧ 8 + (maxL + 11) + rm.locals ≤ R.locals) ∧ cells + 0 ≤ R.cells ∧ slots + 0 ≤ R.slots
/-- a virtual call of a method of a cell of the world -/
theorem q_V {post : Option Value → St → Prop} (S : CallFix p m c cc nL s args qA own) (hI : Inj L) (hK : Kn L s) (h : Hd L s.heap H σ locs) {y : MethodName} {C : String} {T : u_T} {N ci maxL n : Nat} {bytes : ByteArray} {ret : Option FieldType} {rm : Room} {As : List Value} (hM : Mg l L y (Cond.code y bytes maxL ret :: qA) rm (.ref (ad L k) :: As) σ post)
    (hc : vwCl[ci]? = some (C, T, N)) {fs : List Value} (hcnt : ∀ J, cnt L σ J k = .inr (ci, fs)) (hk : k < 245) (w1 : Cond.methodLink own index y ∈ qA) (w2 : Cond.instanceMethod y ∈ qA) (w3 : Cond.selects C y y ∈ qA) (w4 : Cond.initialized C ∈ qA) (w5 : Cond.code y bytes maxL ret ∈ qA)
    (hd : y.cls = C ∧ y.cls ≠ "java/lang/invoke/MethodHandle" ∧ y.cls ≠ "java/lang/invoke/VarHandle" ∧ (parseMethodDescriptor y.desc).map (fun d => d.parameters.length) = some n) (hn : As.length = n) (hR : rmFit rm R maxL cells slots) (hstk : st0 = As.reverse ++ .ref (ad L k) :: rest) (hrest : (rest.map fun v => v.category).sum ≤ 8) (hsz : ls.size = nL) (hdg : decode cc pc = .ok (.invokevirtual index, 3))
    (kk : ∀ (r : Option Value) (u : St) (H1 : Heap) (locs1 : List Loc), post r u → Hd L s.heap H1 u locs1 → W p l e R s m args below meth c H1 locs1 cells slots Q (F0 m (pc + 3) ls (r.toList ++ rest))) : W p l e R s m args below meth c H locs cells slots Q (F0 m pc ls st0) := by
  obtain ⟨hP, hS⟩ := h
  obtain ⟨-, J, hPJ⟩ := id hP
  refine va_callg (va_runV (As := As) (rest := rest) S (hM hI) (cwV n S.2.2.2.2 (good_V w1 w2 w3 w4 w5) rfl hR.1.1 hR.1.2 hd hR.2.1) ⟨blind_bs _ L σ, va_recv hK.1 hPJ hc (by rw [wld_at hk, hcnt J]), fun U hU hW => ⟨rfl, by rw [hU]; exact hP, hK.warm hW⟩⟩ rfl hn hsz hstk (lv_room hrest) hdg hR.2.2) hS (fun q _ h => h) (fun q h => h) (fun r u t H1 locs1 ht _ hp hB _ _ hS1 => kk r u H1 locs1 hp ⟨by rw [← ht]; exact hB.1, hS1⟩)
/-- a call of a static method of the same class -/
theorem q_S {post : Option Value → St → Prop} (S : CallFix p m c cc nL s args qA own) (hI : Inj L) (hK : Kn L s) (h : Hd L s.heap H σ locs) {y : MethodName} {maxL n : Nat} {bytes : ByteArray} {ret : Option FieldType} {rm : Room} {As : List Value} (hM : Mg l L y (Cond.code y bytes maxL ret :: qA) rm As σ post)
    (w1 : Cond.methodLink own index y ∈ qA) (w2 : Cond.static y ∈ qA) (w4 : Cond.initialized own ∈ qA) (w5 : Cond.code y bytes maxL ret ∈ qA)
    (hd : y.cls = own ∧ y.cls ≠ "java/lang/invoke/MethodHandle" ∧ y.cls ≠ "java/lang/invoke/VarHandle" ∧ (parseMethodDescriptor y.desc).map (fun d => d.parameters.length) = some n) (hn : As.length = n) (hR : rmFit rm R maxL cells slots) (hstk : st0 = As.reverse ++ rest) (hrest : (rest.map fun v => v.category).sum ≤ 8) (hsz : ls.size = nL) (hdg : decode cc pc = .ok (.invokestatic index, 3))
    (kk : ∀ (r : Option Value) (u : St) (H1 : Heap) (locs1 : List Loc), post r u → Hd L s.heap H1 u locs1 → W p l e R s m args below meth c H1 locs1 cells slots Q (F0 m (pc + 3) ls (r.toList ++ rest))) : W p l e R s m args below meth c H locs cells slots Q (F0 m pc ls st0) := by
  obtain ⟨hP, hS⟩ := h
  refine va_callg (va_runS (As := As) (rest := rest) S (hM hI) (cwS n S.2.2.2.2 (good_S w1 w2 w4 w5) rfl hR.1.1 hR.1.2 hd hR.2.1) ⟨blind_bs _ L σ, fun U hU hW => ⟨rfl, by rw [hU]; exact hP, hK.warm hW⟩⟩ rfl hn hsz hstk (lv_room hrest) hdg hR.2.2) hS (fun q _ h => h) (fun q h => h) (fun r u t H1 locs1 ht _ hp hB _ _ hS1 => kk r u H1 locs1 hp ⟨by rw [← ht]; exact hB.1, hS1⟩)
/-- a call of a private static method of a nest mate -/
theorem q_SN {post : Option Value → St → Prop} (S : CallFix p m c cc nL s args qA own) (hI : Inj L) (hK : Kn L s) (h : Hd L s.heap H σ locs) {y : MethodName} {host : String} {maxL n : Nat} {bytes : ByteArray} {ret : Option FieldType} {rm : Room} {As : List Value} (hM : Mg l L y (Cond.code y bytes maxL ret :: qA) rm As σ post)
    (w1 : va_Nw (.methodLinkNest own index y host) s) (w2 : Cond.static y ∈ qA) (w4 : Cond.initialized y.cls ∈ qA) (w5 : Cond.code y bytes maxL ret ∈ qA)
    (hd : y.cls ≠ "java/lang/invoke/MethodHandle" ∧ y.cls ≠ "java/lang/invoke/VarHandle" ∧ (parseMethodDescriptor y.desc).map (fun d => d.parameters.length) = some n) (hn : As.length = n) (hR : rmFit rm R maxL cells slots) (hstk : st0 = As.reverse ++ rest) (hrest : (rest.map fun v => v.category).sum ≤ 8) (hsz : ls.size = nL) (hdg : decode cc pc = .ok (.invokestatic index, 3))
    (kk : ∀ (r : Option Value) (u : St) (H1 : Heap) (locs1 : List Loc), post r u → Hd L s.heap H1 u locs1 → W p l e R s m args below meth c H1 locs1 cells slots Q (F0 m (pc + 3) ls (r.toList ++ rest))) : W p l e R s m args below meth c H locs cells slots Q (F0 m pc ls st0) := by
  obtain ⟨hP, hS⟩ := h
  refine va_callg (va_runSN (As := As) (rest := rest) S (hM hI) ⟨va_cnB n S.2.2.2.2 (good_C w5) rfl hR.1.1 hR.1.2 w1 (S.2.2.2.2 _ w4) hd hR.2.1, S.2.2.2.2 _ w2, trivial⟩ ⟨blind_bs _ L σ, fun U hU hW => ⟨rfl, by rw [hU]; exact hP, hK.warm hW⟩⟩ rfl hn hsz hstk (lv_room hrest) hdg hR.2.2) hS (fun q _ h => h) (fun q h => h) (fun r u t H1 locs1 ht _ hp hB _ _ hS1 => kk r u H1 locs1 hp ⟨by rw [← ht]; exact hB.1, hS1⟩)
/-- the ends -/
theorem e_i {post : Option Value → St → Prop} (S : CallFix p m c cc nL s args qA own) (hK : Kn L s) (h : Hd L s.heap H σ locs) (hr : meth.sig.returnType = some .int) (hlocks : meth.locks = false) {v : Int32} (hd : decode cc pc = .ok (.ireturn, 1)) (hp : post (some (.int v)) σ) : W p l e R s m args below meth c H locs cells slots (MQ below (Qg post (bs L) (Aw L)) args s cells slots (Aw L)) (F0 m pc ls [.int v]) :=
  W.iret S.1 S.2.1 hr (fun t ht hW => ⟨⟨_, σ, rfl, hp, by rw [bs, ht]; exact ⟨h.1, hK.warm hW⟩⟩, h.2.F ht⟩) h.2.2.2 hd hlocks
theorem e_z {post : Option Value → St → Prop} (S : CallFix p m c cc nL s args qA own) (hK : Kn L s) (h : Hd L s.heap H σ locs) (hr : meth.sig.returnType = some .boolean) (hlocks : meth.locks = false) {v : Int32} (hv : v = 0 ∨ v = 1) (hd : decode cc pc = .ok (.ireturn, 1)) (hp : post (some (.int v)) σ) : W p l e R s m args below meth c H locs cells slots (MQ below (Qg post (bs L) (Aw L)) args s cells slots (Aw L)) (F0 m pc ls [.int v]) :=
  W.zret (ty := .boolean) S.1 S.2.1 hr (by rcases hv with rfl | rfl <;> rfl) (fun t ht hW => ⟨⟨_, σ, rfl, hp, by rw [bs, ht]; exact ⟨h.1, hK.warm hW⟩⟩, h.2.F ht⟩) h.2.2.2 hd hlocks
theorem e_v {post : Option Value → St → Prop} (S : CallFix p m c cc nL s args qA own) (hK : Kn L s) (h : Hd L s.heap H σ locs) (hr : meth.sig.returnType = none) (hlocks : meth.locks = false) (hd : decode cc pc = .ok (.return_, 1)) (hp : post none σ) : W p l e R s m args below meth c H locs cells slots (MQ below (Qg post (bs L) (Aw L)) args s cells slots (Aw L)) (F0 m pc ls []) :=
  W.vret S.1 S.2.1 hr (fun t ht hW => ⟨⟨_, σ, rfl, hp, by rw [bs, ht]; exact ⟨h.1, hK.warm hW⟩⟩, h.2.F ht⟩) h.2.2.2 hd hlocks
theorem e_a {post : Option Value → St → Prop} {n : String} (S : CallFix p m c cc nL s args qA own) (hK : Kn L s) (h : Hd L s.heap H σ locs) (hr : meth.sig.returnType = some (.object n)) (hlocks : meth.locks = false) {v : Value} (hv : v = .null ∨ ∃ a, v = .ref a) (hd : decode cc pc = .ok (.areturn, 1)) (hp : post (some v) σ) : W p l e R s m args below meth c H locs cells slots (MQ below (Qg post (bs L) (Aw L)) args s cells slots (Aw L)) (F0 m pc ls [v]) :=
  W.aret S.1 S.2.1 hr (Or.inl ⟨n, rfl⟩) hv (fun t ht hW => ⟨⟨_, σ, rfl, hp, by rw [bs, ht]; exact ⟨h.1, hK.warm hW⟩⟩, h.2.F ht⟩) h.2.2.2 hd hlocks
/-- a method's contract out of the walk of its body -/
theorem Mg.ofW {y : MethodName} {rm : Room} {maxL : Nat} {ret : Option FieldType} {as : List Value} {post : Option Value → St → Prop} (hy : plainName y.cls = true) (hlen : (lg_sl as).length ≤ maxL)
    (body : ∀ (p : Program) (e : Env) (s : State) (m : MethodId) (args : Array Value) (below : List Frame) (meth : Method) (c : Code) (ls : Array Slot), Inj L → CallFix p m c cc maxL s args qA y.cls → meth.sig.returnType = ret → meth.locks = false → Kn L s → Hd L s.heap s.heap σ [] → lv_has ls maxL (lv_args 0 as) →
      W p l e rm s m args below meth c s.heap [] 0 0 (MQ below (Qg post (bs L) (Aw L)) args s 0 0 (Aw L)) (F0 m 0 ls [])) : Mg l L y (Cond.code y cc maxL ret :: qA) rm as σ post := by
  intro hI
  refine Met.ofW (cc := cc) (maxL := maxL) (ret := ret) hy rfl ?_
  intro p e s m args below meth c s₁ B hml hv
  obtain ⟨rfl, hP, hK⟩ := hv
  have hts := atoms_spec (ws := Cond.code y cc maxL ret :: qA) B.pre
  have hl := lv_entry as (n := maxL) hlen
  rw [lg_entry_eq]
  exact body p e s m _ below meth c _ hI ⟨B.exec, B.bytes, hml, findClass_of_methodNamed B.named, fun w h => hts w (List.mem_cons_of_mem _ h)⟩ B.returns B.notSynchronized hK ⟨hP, va_S.rf⟩ hl
end QCALLS
end
section
section QBR
variable {p : Program} {l : Launch} {e : Env} {R : Room} {s : State} {m : MethodId} {args : Array Value} {below : List Frame} {meth : Method} {c : Code} {H : Heap} {locs : List Loc} {cells slots : Nat} {Q : State → Prop}
variable {cc : ByteArray} {pc tgt a b : Nat} {off : Int} {ls : Array Slot} {rest : List Value}
theorem b_icmp_lt (hx : p.tables.exec = Jvm.exec) (hb : c.code = cc) (hd : decode cc pc = .ok (.if_icmp .lt off, 3)) (ht : (pc : Int) + off = (tgt : Int)) (ha : a < 2 ^ 31) (hbb : b < 2 ^ 31) (kt : a < b → W p l e R s m args below meth c H locs cells slots Q (F0 m tgt ls rest)) (kf : b ≤ a → W p l e R s m args below meth c H locs cells slots Q (F0 m (pc + 3) ls rest)) : W p l e R s m args below meth c H locs cells slots Q (F0 m pc ls (.int (nI b) :: .int (nI a) :: rest)) :=
  lv_icmp_lt hx hb hd ht (fun h => kt ((nI_ltI ha hbb).mp h)) (fun h => kf (Nat.le_of_not_lt fun q => h ((nI_ltI ha hbb).mpr q)))
theorem b_icmp_ge (hx : p.tables.exec = Jvm.exec) (hb : c.code = cc) (hd : decode cc pc = .ok (.if_icmp .ge off, 3)) (ht : (pc : Int) + off = (tgt : Int)) (ha : a < 2 ^ 31) (hbb : b < 2 ^ 31) (kt : b ≤ a → W p l e R s m args below meth c H locs cells slots Q (F0 m tgt ls rest)) (kf : a < b → W p l e R s m args below meth c H locs cells slots Q (F0 m (pc + 3) ls rest)) : W p l e R s m args below meth c H locs cells slots Q (F0 m pc ls (.int (nI b) :: .int (nI a) :: rest)) :=
  lv_icmp_ge hx hb hd ht (fun h => kt ((nI_leI hbb ha).mp h)) (fun h => kf (Nat.lt_of_not_le fun q => h ((nI_leI hbb ha).mpr q)))
theorem b_icmp_gt (hx : p.tables.exec = Jvm.exec) (hb : c.code = cc) (hd : decode cc pc = .ok (.if_icmp .gt off, 3)) (ht : (pc : Int) + off = (tgt : Int)) (ha : a < 2 ^ 31) (hbb : b < 2 ^ 31) (kt : b < a → W p l e R s m args below meth c H locs cells slots Q (F0 m tgt ls rest)) (kf : a ≤ b → W p l e R s m args below meth c H locs cells slots Q (F0 m (pc + 3) ls rest)) : W p l e R s m args below meth c H locs cells slots Q (F0 m pc ls (.int (nI b) :: .int (nI a) :: rest)) :=
  lv_icmp_gt hx hb hd ht (fun h => kt ((nI_ltI hbb ha).mp h)) (fun h => kf (Nat.le_of_not_lt fun q => h ((nI_ltI hbb ha).mpr q)))
theorem b_icmp_le (hx : p.tables.exec = Jvm.exec) (hb : c.code = cc) (hd : decode cc pc = .ok (.if_icmp .le off, 3)) (ht : (pc : Int) + off = (tgt : Int)) (ha : a < 2 ^ 31) (hbb : b < 2 ^ 31) (kt : a ≤ b → W p l e R s m args below meth c H locs cells slots Q (F0 m tgt ls rest)) (kf : b < a → W p l e R s m args below meth c H locs cells slots Q (F0 m (pc + 3) ls rest)) : W p l e R s m args below meth c H locs cells slots Q (F0 m pc ls (.int (nI b) :: .int (nI a) :: rest)) :=
  lv_icmp_le hx hb hd ht (fun h => kt ((nI_leI ha hbb).mp h)) (fun h => kf (Nat.lt_of_not_le fun q => h ((nI_leI ha hbb).mpr q)))
theorem b_icmp_eq (hx : p.tables.exec = Jvm.exec) (hb : c.code = cc) (hd : decode cc pc = .ok (.if_icmp .eq off, 3)) (ht : (pc : Int) + off = (tgt : Int)) (ha : a < 2 ^ 31) (hbb : b < 2 ^ 31) (kt : a = b → W p l e R s m args below meth c H locs cells slots Q (F0 m tgt ls rest)) (kf : a ≠ b → W p l e R s m args below meth c H locs cells slots Q (F0 m (pc + 3) ls rest)) : W p l e R s m args below meth c H locs cells slots Q (F0 m pc ls (.int (nI b) :: .int (nI a) :: rest)) :=
  lv_icmp_eq hx hb hd ht (fun h => kt ((nI_eq ha hbb).mp h)) (fun h => kf (fun q => h (by rw [q])))
theorem b_icmp_ne (hx : p.tables.exec = Jvm.exec) (hb : c.code = cc) (hd : decode cc pc = .ok (.if_icmp .ne off, 3)) (ht : (pc : Int) + off = (tgt : Int)) (ha : a < 2 ^ 31) (hbb : b < 2 ^ 31) (kt : a ≠ b → W p l e R s m args below meth c H locs cells slots Q (F0 m tgt ls rest)) (kf : a = b → W p l e R s m args below meth c H locs cells slots Q (F0 m (pc + 3) ls rest)) : W p l e R s m args below meth c H locs cells slots Q (F0 m pc ls (.int (nI b) :: .int (nI a) :: rest)) :=
  lv_icmp_ne hx hb hd ht (fun h => kt (fun q => h (by rw [q]))) (fun h => kf ((nI_eq ha hbb).mp h))
theorem b_if_lt (hx : p.tables.exec = Jvm.exec) (hb : c.code = cc) (hd : decode cc pc = .ok (.ifCond .lt off, 3)) (ht : (pc : Int) + off = (tgt : Int)) (ha : a < 2 ^ 31) (kf : W p l e R s m args below meth c H locs cells slots Q (F0 m (pc + 3) ls rest)) : W p l e R s m args below meth c H locs cells slots Q (F0 m pc ls (.int (nI a) :: rest)) :=
  lv_if_lt hx hb hd ht (fun h => absurd h (nI_pos ha)) (fun _ => kf)
theorem b_if_ge (hx : p.tables.exec = Jvm.exec) (hb : c.code = cc) (hd : decode cc pc = .ok (.ifCond .ge off, 3)) (ht : (pc : Int) + off = (tgt : Int)) (ha : a < 2 ^ 31) (kt : W p l e R s m args below meth c H locs cells slots Q (F0 m tgt ls rest)) : W p l e R s m args below meth c H locs cells slots Q (F0 m pc ls (.int (nI a) :: rest)) :=
  lv_if_ge hx hb hd ht (fun _ => kt) (fun h => absurd (nI_pos' ha) h)
theorem b_if_eq (hx : p.tables.exec = Jvm.exec) (hb : c.code = cc) (hd : decode cc pc = .ok (.ifCond .eq off, 3)) (ht : (pc : Int) + off = (tgt : Int)) (ha : a < 2 ^ 31) (kt : a = 0 → W p l e R s m args below meth c H locs cells slots Q (F0 m tgt ls rest)) (kf : 0 < a → W p l e R s m args below meth c H locs cells slots Q (F0 m (pc + 3) ls rest)) : W p l e R s m args below meth c H locs cells slots Q (F0 m pc ls (.int (nI a) :: rest)) :=
  lv_if_eq hx hb hd ht (fun h => kt ((nI_eq ha (by omega)).mp (h.trans nI_0.symm))) (fun h => kf (Nat.pos_of_ne_zero fun q => h (by rw [q]; rfl)))
theorem b_if_ne (hx : p.tables.exec = Jvm.exec) (hb : c.code = cc) (hd : decode cc pc = .ok (.ifCond .ne off, 3)) (ht : (pc : Int) + off = (tgt : Int)) (ha : a < 2 ^ 31) (kt : 0 < a → W p l e R s m args below meth c H locs cells slots Q (F0 m tgt ls rest)) (kf : a = 0 → W p l e R s m args below meth c H locs cells slots Q (F0 m (pc + 3) ls rest)) : W p l e R s m args below meth c H locs cells slots Q (F0 m pc ls (.int (nI a) :: rest)) :=
  lv_if_ne hx hb hd ht (fun h => kt (Nat.pos_of_ne_zero fun q => h (by rw [q]; rfl))) (fun h => kf ((nI_eq ha (by omega)).mp (h.trans nI_0.symm)))
theorem b_if_gt (hx : p.tables.exec = Jvm.exec) (hb : c.code = cc) (hd : decode cc pc = .ok (.ifCond .gt off, 3)) (ht : (pc : Int) + off = (tgt : Int)) (ha : a < 2 ^ 31) (kt : 0 < a → W p l e R s m args below meth c H locs cells slots Q (F0 m tgt ls rest)) (kf : a = 0 → W p l e R s m args below meth c H locs cells slots Q (F0 m (pc + 3) ls rest)) : W p l e R s m args below meth c H locs cells slots Q (F0 m pc ls (.int (nI a) :: rest)) :=
  lv_if_gt hx hb hd ht (fun h => kt ((nI_ltI (by omega) ha).mp (nI_0 ▸ h))) (fun h => kf (Nat.eq_zero_of_not_pos fun q => h (nI_0 ▸ (nI_ltI (by omega) ha).mpr q)))
theorem b_if_le (hx : p.tables.exec = Jvm.exec) (hb : c.code = cc) (hd : decode cc pc = .ok (.ifCond .le off, 3)) (ht : (pc : Int) + off = (tgt : Int)) (ha : a < 2 ^ 31) (kt : a = 0 → W p l e R s m args below meth c H locs cells slots Q (F0 m tgt ls rest)) (kf : 0 < a → W p l e R s m args below meth c H locs cells slots Q (F0 m (pc + 3) ls rest)) : W p l e R s m args below meth c H locs cells slots Q (F0 m pc ls (.int (nI a) :: rest)) :=
  lv_if_le hx hb hd ht (fun h => kt (Nat.eq_zero_of_not_pos fun q => nI_nle q ha h)) (fun h => kf (Nat.pos_of_ne_zero fun q => h (by rw [q]; decide)))
theorem z_eq {P : Prop} [Decidable P] (hx : p.tables.exec = Jvm.exec) (hb : c.code = cc) (hd : decode cc pc = .ok (.ifCond .eq off, 3)) (ht : (pc : Int) + off = (tgt : Int)) (kt : ¬ P → W p l e R s m args below meth c H locs cells slots Q (F0 m tgt ls rest)) (kf : P → W p l e R s m args below meth c H locs cells slots Q (F0 m (pc + 3) ls rest)) : W p l e R s m args below meth c H locs cells slots Q (F0 m pc ls (.int (if P then 1 else 0) :: rest)) :=
  lv_if_eq hx hb hd ht (fun h => kt (fun q => absurd (h.symm.trans (if_pos q)) (by decide))) (fun h => kf (Classical.byContradiction fun q => h (if_neg q)))
theorem z_ne {P : Prop} [Decidable P] (hx : p.tables.exec = Jvm.exec) (hb : c.code = cc) (hd : decode cc pc = .ok (.ifCond .ne off, 3)) (ht : (pc : Int) + off = (tgt : Int)) (kt : P → W p l e R s m args below meth c H locs cells slots Q (F0 m tgt ls rest)) (kf : ¬ P → W p l e R s m args below meth c H locs cells slots Q (F0 m (pc + 3) ls rest)) : W p l e R s m args below meth c H locs cells slots Q (F0 m pc ls (.int (if P then 1 else 0) :: rest)) :=
  lv_if_ne hx hb hd ht (fun h => kt (Classical.byContradiction fun q => h (if_neg q))) (fun h => kf (fun q => absurd (h.symm.trans (if_pos q)) (by decide)))
theorem a_iadd (hx : p.tables.exec = Jvm.exec) (hb : c.code = cc) (hd : decode cc pc = .ok (.iadd, 1)) (kk : W p l e R s m args below meth c H locs cells slots Q (F0 m (pc + 1) ls (.int (nI (a + b)) :: rest))) : W p l e R s m args below meth c H locs cells slots Q (F0 m pc ls (.int (nI b) :: .int (nI a) :: rest)) :=
  lv_iadd hx hb hd (by rw [nI_add]; exact kk)
theorem a_isub (hx : p.tables.exec = Jvm.exec) (hb : c.code = cc) (hd : decode cc pc = .ok (.isub, 1)) (h : b ≤ a) (kk : W p l e R s m args below meth c H locs cells slots Q (F0 m (pc + 1) ls (.int (nI (a - b)) :: rest))) : W p l e R s m args below meth c H locs cells slots Q (F0 m pc ls (.int (nI b) :: .int (nI a) :: rest)) :=
  lv_isub hx hb hd (by rw [pk_sub h]; exact kk)
theorem a_imul (hx : p.tables.exec = Jvm.exec) (hb : c.code = cc) (hd : decode cc pc = .ok (.imul, 1)) (kk : W p l e R s m args below meth c H locs cells slots Q (F0 m (pc + 1) ls (.int (nI (a * b)) :: rest))) : W p l e R s m args below meth c H locs cells slots Q (F0 m pc ls (.int (nI b) :: .int (nI a) :: rest)) :=
  lv_imul hx hb hd (by rw [pk_mul]; exact kk)
theorem a_idiv (hx : p.tables.exec = Jvm.exec) (hb : c.code = cc) (hd : decode cc pc = .ok (.idiv, 1)) (ha : a < 2 ^ 31) (h0 : 0 < b) (hbb : b < 2 ^ 31) (kk : W p l e R s m args below meth c H locs cells slots Q (F0 m (pc + 1) ls (.int (nI (a / b)) :: rest))) : W p l e R s m args below meth c H locs cells slots Q (F0 m pc ls (.int (nI b) :: .int (nI a) :: rest)) :=
  lv_idiv hx hb hd (nI_ne0 h0 hbb) (by rw [pk_div ha h0 hbb]; exact kk)
theorem iinc_1 (a : Nat) : nI a + Int32.ofInt 1 = nI (a + 1) := nI_1 a
theorem iinc_m1 (a : Nat) : nI (a + 1) + Int32.ofInt (-1) = nI a := pk_m1 a
theorem fin_p {post : Option Value → St → Prop} {r r' : Option Value} {σ σ' : St} (h : post r' σ') (h1 : r = r') (h2 : σ = σ') : post r σ := h1 ▸ h2 ▸ h
end QBR
section QCALLS2
variable {p : Program} {l : Launch} {e : Env} {R : Room} {s : State} {m : MethodId} {args : Array Value} {below : List Frame} {meth : Method} {c : Code} {H : Heap} {locs : List Loc} {cells slots : Nat} {Q : State → Prop}
variable {cc : ByteArray} {pc nL index : Nat} {own : String} {ls : Array Slot} {rest st0 : List Value} {L : Lay} {H0 : Heap} {σ σ' : St} {k : Nat}
/-- the class of a cell of the world that has methods -/
def clOf (k : Nat) : String := if kd k = 0 then RX0 else if kd k = 1 then RX1 else if kd k = 2 then RX2 else if kd k = 3 then RX3 else if kd k = 4 then RX4 else if kd k = 5 then RX5 else if kd k = 6 then RX6 else RX7
theorem clOf_n {n : Nat} {C : String} {T : u_T} {N : Nat} (h : kd k = n) (hn : n < 8) (hc : vwCl[n]? = some (C, T, N)) : ∃ fs : List Value, ∀ J, cnt L σ J k = .inr (n, fs) := by
  rcases (show n = 0 ∨ n = 1 ∨ n = 2 ∨ n = 3 ∨ n = 4 ∨ n = 5 ∨ n = 6 ∨ n = 7 by omega) with rfl | rfl | rfl | rfl | rfl | rfl | rfl | rfl
  · exact ⟨_, fun J => cnt_0 h⟩
  · exact ⟨_, fun J => cnt_1 h⟩
  · exact ⟨_, fun J => cnt_2 h⟩
  · exact ⟨_, fun J => cnt_3 h⟩
  · exact ⟨_, fun J => cnt_4 h⟩
  · exact ⟨_, fun J => cnt_5 h⟩
  · exact ⟨_, fun J => cnt_6 h⟩
  · exact ⟨_, fun J => cnt_7 h⟩
abbrev ydV (y : MethodName) (C : String) (n : Nat) : Prop := y.cls = C ∧ y.cls ≠ "java/lang/invoke/MethodHandle" ∧ y.cls ≠ "java/lang/invoke/VarHandle" ∧ (parseMethodDescriptor y.desc).map (fun d => d.parameters.length) = some n
/-- virtual calls with a known end: an answer, none -/
theorem q_V1 {v : Value} (S : CallFix p m c cc nL s args qA own) (hI : Inj L) (hK : Kn L s) (h : Hd L s.heap H σ locs) {y : MethodName} {C : String} {T : u_T} {N ci maxL n : Nat} {bytes : ByteArray} {ret : Option FieldType} {rm : Room} (As : List Value) (hM : Mf l L y (Cond.code y bytes maxL ret :: qA) rm (.ref (ad L k) :: As) σ (some v) σ')
    (hk : kd k = ci) (hc : vwCl[ci]? = some (C, T, N)) (hci : ci < 8) (w1 : Cond.methodLink own index y ∈ qA) (w2 : Cond.instanceMethod y ∈ qA) (w3 : Cond.selects C y y ∈ qA) (w4 : Cond.initialized C ∈ qA) (w5 : Cond.code y bytes maxL ret ∈ qA)
    (hd : ydV y C n) (hn : As.length = n) (hR : rmFit rm R maxL cells slots) (hstk : st0 = As.reverse ++ .ref (ad L k) :: rest) (hrest : (rest.map fun v => v.category).sum ≤ 8) (hsz : ls.size = nL) (hdg : decode cc pc = .ok (.invokevirtual index, 3))
    (kk : ∀ (H1 : Heap) (locs1 : List Loc), Hd L s.heap H1 σ' locs1 → W p l e R s m args below meth c H1 locs1 cells slots Q (F0 m (pc + 3) ls (v :: rest))) : W p l e R s m args below meth c H locs cells slots Q (F0 m pc ls st0) := by
  obtain ⟨fs, hfs⟩ := clOf_n (L := L) (σ := σ) hk hci hc
  refine q_V S hI hK h hM hc hfs (kd_of hk (by omega)) w1 w2 w3 w4 w5 hd hn hR hstk hrest hsz hdg (fun r u H1 locs1 hp h1 => ?_)
  obtain ⟨rfl, rfl⟩ := hp
  exact kk H1 locs1 h1
theorem q_V0 (S : CallFix p m c cc nL s args qA own) (hI : Inj L) (hK : Kn L s) (h : Hd L s.heap H σ locs) {y : MethodName} {C : String} {T : u_T} {N ci maxL n : Nat} {bytes : ByteArray} {ret : Option FieldType} {rm : Room} (As : List Value) (hM : Mf l L y (Cond.code y bytes maxL ret :: qA) rm (.ref (ad L k) :: As) σ none σ')
    (hk : kd k = ci) (hc : vwCl[ci]? = some (C, T, N)) (hci : ci < 8) (w1 : Cond.methodLink own index y ∈ qA) (w2 : Cond.instanceMethod y ∈ qA) (w3 : Cond.selects C y y ∈ qA) (w4 : Cond.initialized C ∈ qA) (w5 : Cond.code y bytes maxL ret ∈ qA)
    (hd : ydV y C n) (hn : As.length = n) (hR : rmFit rm R maxL cells slots) (hstk : st0 = As.reverse ++ .ref (ad L k) :: rest) (hrest : (rest.map fun v => v.category).sum ≤ 8) (hsz : ls.size = nL) (hdg : decode cc pc = .ok (.invokevirtual index, 3))
    (kk : ∀ (H1 : Heap) (locs1 : List Loc), Hd L s.heap H1 σ' locs1 → W p l e R s m args below meth c H1 locs1 cells slots Q (F0 m (pc + 3) ls rest)) : W p l e R s m args below meth c H locs cells slots Q (F0 m pc ls st0) := by
  obtain ⟨fs, hfs⟩ := clOf_n (L := L) (σ := σ) hk hci hc
  refine q_V S hI hK h hM hc hfs (kd_of hk (by omega)) w1 w2 w3 w4 w5 hd hn hR hstk hrest hsz hdg (fun r u H1 locs1 hp h1 => ?_)
  obtain ⟨rfl, rfl⟩ := hp
  exact kk H1 locs1 h1
theorem q_S1 {v : Value} (S : CallFix p m c cc nL s args qA own) (hI : Inj L) (hK : Kn L s) (h : Hd L s.heap H σ locs) {y : MethodName} {maxL n : Nat} {bytes : ByteArray} {ret : Option FieldType} {rm : Room} (As : List Value) (hM : Mf l L y (Cond.code y bytes maxL ret :: qA) rm As σ (some v) σ')
    (w1 : Cond.methodLink own index y ∈ qA) (w2 : Cond.static y ∈ qA) (w4 : Cond.initialized own ∈ qA) (w5 : Cond.code y bytes maxL ret ∈ qA)
    (hd : ydV y own n) (hn : As.length = n) (hR : rmFit rm R maxL cells slots) (hstk : st0 = As.reverse ++ rest) (hrest : (rest.map fun v => v.category).sum ≤ 8) (hsz : ls.size = nL) (hdg : decode cc pc = .ok (.invokestatic index, 3))
    (kk : ∀ (H1 : Heap) (locs1 : List Loc), Hd L s.heap H1 σ' locs1 → W p l e R s m args below meth c H1 locs1 cells slots Q (F0 m (pc + 3) ls (v :: rest))) : W p l e R s m args below meth c H locs cells slots Q (F0 m pc ls st0) := by
  refine q_S S hI hK h hM w1 w2 w4 w5 hd hn hR hstk hrest hsz hdg (fun r u H1 locs1 hp h1 => ?_)
  obtain ⟨rfl, rfl⟩ := hp
  exact kk H1 locs1 h1
theorem Mf.ofW {y : MethodName} {rm : Room} {maxL : Nat} {ret : Option FieldType} {as : List Value} {r : Option Value} (hy : plainName y.cls = true) (hlen : (lg_sl as).length ≤ maxL)
    (body : ∀ (p : Program) (e : Env) (s : State) (m : MethodId) (args : Array Value) (below : List Frame) (meth : Method) (c : Code) (ls : Array Slot) (post : Option Value → St → Prop), post r σ' → Inj L → CallFix p m c cc maxL s args qA y.cls → meth.sig.returnType = ret → meth.locks = false → Kn L s → Hd L s.heap s.heap σ [] → lv_has ls maxL (lv_args 0 as) →
      W p l e rm s m args below meth c s.heap [] 0 0 (MQ below (Qg post (bs L) (Aw L)) args s 0 0 (Aw L)) (F0 m 0 ls [])) : Mf l L y (Cond.code y cc maxL ret :: qA) rm as σ r σ' :=
  Mg.ofW hy hlen (fun p e s m args below meth c ls hI S hr hk hK h hl => body p e s m args below meth c ls _ ⟨rfl, rfl⟩ hI S hr hk hK h hl)
end QCALLS2
end
section
theorem kd3_v : ∀ {k : Nat}, kd k = 3 → kd (k + 1) = 4 := fun {k} h => (show ∀ k, k < 245 → kd k = 3 → kd (k + 1) = 4 from by decide +kernel) k (kd_of h) h
theorem kd6_w : ∀ {k : Nat}, kd k = 6 → kd (k + 1) = 4 := fun {k} h => (show ∀ k, k < 245 → kd k = 6 → kd (k + 1) = 4 from by decide +kernel) k (kd_of h) h
theorem kd5_s {k : Nat} (h : kd k = 5) : kd (k + 1) = 4 := (kd_5h k (kd_of h) h).1
theorem kd5_1 {k : Nat} (h : kd k = 5) : kd (k + 3) = 0 := (kd_5h k (kd_of h) h).2.1
theorem kd5_2 {k : Nat} (h : kd k = 5) : kd (k + 17) = 0 := (kd_5h k (kd_of h) h).2.2.1
theorem kd5_3 {k : Nat} (h : kd k = 5) : kd (k + 31) = 0 := (kd_5h k (kd_of h) h).2.2.2.1
theorem z_or (P : Prop) [Decidable P] : (if P then (1 : Int32) else 0) = 0 ∨ (if P then (1 : Int32) else 0) = 1 := by
  by_cases h : P
  · exact Or.inr (if_pos h)
  · exact Or.inl (if_neg h)
theorem Hd.to {L : Lay} {H0 H : Heap} {σ σ' : St} {locs : List Loc} (h : Hd L H0 H σ locs) (e : σ = σ') : Hd L H0 H σ' locs := e ▸ h
section QM
variable {p : Program} {l : Launch} {e : Env} {R : Room} {s : State} {m : MethodId} {args : Array Value} {below : List Frame} {meth : Method} {c : Code} {H : Heap} {locs : List Loc} {cells slots : Nat} {Q : State → Prop}
variable {cc : ByteArray} {pc tgt nL index : Nat} {off : Int} {own : String} {ls : Array Slot} {rest st0 : List Value} {L : Lay} {H0 : Heap} {σ σ' : St} {k : Nat}
theorem cv_i {x y : Int32} (h : x = y) (kk : W p l e R s m args below meth c H locs cells slots Q (F0 m pc ls (.int y :: rest))) : W p l e R s m args below meth c H locs cells slots Q (F0 m pc ls (.int x :: rest)) := h ▸ kk
theorem cv_l {x y : Int64} (h : x = y) (kk : W p l e R s m args below meth c H locs cells slots Q (F0 m pc ls (.long y :: rest))) : W p l e R s m args below meth c H locs cells slots Q (F0 m pc ls (.long x :: rest)) := h ▸ kk
theorem iinc_k (a b : Nat) : nI a + Int32.ofInt (b : Int) = nI (a + b) := by
  rw [← nI_add]
  rfl
theorem lv_lcmpv (hx : p.tables.exec = Jvm.exec) (hb : c.code = cc) {x y : Int64} (hd : decode cc pc = .ok (.lcmp, 1)) (kk : W p l e R s m args below meth c H locs cells slots Q (F0 m (pc + 1) ls (.int (lg_cmp x y) :: rest))) : W p l e R s m args below meth c H locs cells slots Q (F0 m pc ls (.long y :: .long x :: rest)) := W.lcmp hx hb hd kk
theorem lc_le (hx : p.tables.exec = Jvm.exec) (hb : c.code = cc) {x y : Int64} (hd : decode cc pc = .ok (.ifCond .le off, 3)) (ht : (pc : Int) + off = (tgt : Int)) (kt : x ≤ y → W p l e R s m args below meth c H locs cells slots Q (F0 m tgt ls rest)) (kf : y < x → W p l e R s m args below meth c H locs cells slots Q (F0 m (pc + 3) ls rest)) : W p l e R s m args below meth c H locs cells slots Q (F0 m pc ls (.int (lg_cmp x y) :: rest)) :=
  lv_if_le hx hb hd ht (fun h => kt ((lg_cmp_le x y).mp h)) (fun h => kf (Int64.not_le.mp fun q => h ((lg_cmp_le x y).mpr q)))
theorem lc_gt (hx : p.tables.exec = Jvm.exec) (hb : c.code = cc) {x y : Int64} (hd : decode cc pc = .ok (.ifCond .gt off, 3)) (ht : (pc : Int) + off = (tgt : Int)) (kt : y < x → W p l e R s m args below meth c H locs cells slots Q (F0 m tgt ls rest)) (kf : x ≤ y → W p l e R s m args below meth c H locs cells slots Q (F0 m (pc + 3) ls rest)) : W p l e R s m args below meth c H locs cells slots Q (F0 m pc ls (.int (lg_cmp x y) :: rest)) :=
  lv_if_gt hx hb hd ht (fun h => kt (Int64.not_le.mp fun q => absurd ((lg_cmp_le x y).mpr q) (Int32.not_le.mpr h))) (fun h => kf ((lg_cmp_le x y).mp (Int32.not_lt.mp h)))
theorem lc_lt (hx : p.tables.exec = Jvm.exec) (hb : c.code = cc) {x y : Int64} (hd : decode cc pc = .ok (.ifCond .lt off, 3)) (ht : (pc : Int) + off = (tgt : Int)) (kt : x < y → W p l e R s m args below meth c H locs cells slots Q (F0 m tgt ls rest)) (kf : y ≤ x → W p l e R s m args below meth c H locs cells slots Q (F0 m (pc + 3) ls rest)) : W p l e R s m args below meth c H locs cells slots Q (F0 m pc ls (.int (lg_cmp x y) :: rest)) :=
  lv_if_lt hx hb hd ht (fun h => kt ((lg_cmp_lt x y).mp h)) (fun h => kf (Int64.not_lt.mp fun q => h ((lg_cmp_lt x y).mpr q)))
theorem lc_ge (hx : p.tables.exec = Jvm.exec) (hb : c.code = cc) {x y : Int64} (hd : decode cc pc = .ok (.ifCond .ge off, 3)) (ht : (pc : Int) + off = (tgt : Int)) (kt : y ≤ x → W p l e R s m args below meth c H locs cells slots Q (F0 m tgt ls rest)) (kf : x < y → W p l e R s m args below meth c H locs cells slots Q (F0 m (pc + 3) ls rest)) : W p l e R s m args below meth c H locs cells slots Q (F0 m pc ls (.int (lg_cmp x y) :: rest)) :=
  lv_if_ge hx hb hd ht (fun h => kt (Int64.not_lt.mp fun q => absurd ((lg_cmp_lt x y).mpr q) (Int32.not_lt.mpr h))) (fun h => kf ((lg_cmp_lt x y).mp (Int32.not_le.mp h)))
theorem p_lenA {n : Nat} (S : CallFix p m c cc nL s args qA own) (hI : Inj L) (hK : Kn L s) (h : Hd L H0 H σ locs) (hk : kd k = 4) (hn : n ≤ cp k) (hq : Cond.fieldLink own index "QuantileDigests$Row" "length" "I" ∈ qA) (hd : decode cc pc = .ok (.putfield index, 3)) (kk : ∀ (l' : List Int32), l'.length = n → ∀ (H1 : Heap) (locs1 : List Loc), Hd L H0 H1 (up σ k l') locs1 → W p l e R s m args below meth c H1 locs1 cells slots Q (F0 m (pc + 3) ls rest)) : W p l e R s m args below meth c H locs cells slots Q (F0 m pc ls (.int (nI n) :: .ref (ad L k) :: rest)) := by
  obtain ⟨J, hJ⟩ := h.J
  exact p_lenJ S hI hK hJ hk hn rfl hq hd (kk _ (by simp))
theorem p_lenT {n : Nat} (S : CallFix p m c cc nL s args qA own) (hI : Inj L) (hK : Kn L s) (h : Hd L H0 H σ locs) (hk : kd k = 4) (hn : n ≤ (σ k).length) (hq : Cond.fieldLink own index "QuantileDigests$Row" "length" "I" ∈ qA) (hd : decode cc pc = .ok (.putfield index, 3)) (kk : ∀ (H1 : Heap) (locs1 : List Loc), Hd L H0 H1 (up σ k ((σ k).take n)) locs1 → W p l e R s m args below meth c H1 locs1 cells slots Q (F0 m (pc + 3) ls rest)) : W p l e R s m args below meth c H locs cells slots Q (F0 m pc ls (.int (nI n) :: .ref (ad L k) :: rest)) := by
  obtain ⟨J, hJ⟩ := h.J
  refine p_lenJ S hI hK hJ hk (Nat.le_trans hn (h.ok k hk)) ?_ hq hd kk
  apply List.ext_getElem?
  intro i
  by_cases hi : i < n
  · rw [List.getElem?_take_of_lt hi, List.getElem?_map, List.getElem?_range hi]
    show _ = some (ph σ J k i)
    rw [ph, if_pos (by omega), List.getD_eq_getElem?_getD, List.getElem?_eq_getElem (by omega)]
    rfl
  · rw [List.getElem?_eq_none_iff.mpr (by rw [List.length_take]; omega), List.getElem?_eq_none_iff.mpr (by simp; omega)]
theorem p_lenP {x : Int32} (S : CallFix p m c cc nL s args qA own) (hI : Inj L) (hK : Kn L s) {J : Nat → Nat → Int32} (h : HdJ L H0 H σ (fun q => if q = k then upd (J k) (σ k).length x else J q) locs) (hk : kd k = 4) (hn : (σ k).length + 1 ≤ cp k) (hq : Cond.fieldLink own index "QuantileDigests$Row" "length" "I" ∈ qA) (hd : decode cc pc = .ok (.putfield index, 3)) (kk : ∀ (H1 : Heap) (locs1 : List Loc), Hd L H0 H1 (up σ k (σ k ++ [x])) locs1 → W p l e R s m args below meth c H1 locs1 cells slots Q (F0 m (pc + 3) ls rest)) : W p l e R s m args below meth c H locs cells slots Q (F0 m pc ls (.int (nI ((σ k).length + 1)) :: .ref (ad L k) :: rest)) := by
  refine p_lenJ S hI hK h hk hn ?_ hq hd kk
  apply List.ext_getElem?
  intro i
  by_cases hi : i < (σ k).length + 1
  · rw [List.getElem?_map, List.getElem?_range hi]
    show _ = some (ph σ _ k i)
    unfold ph
    by_cases h2 : i < (σ k).length
    · rw [if_pos h2, List.getElem?_append_left h2, List.getD_eq_getElem?_getD, List.getElem?_eq_getElem h2]
      rfl
    · have e : i = (σ k).length := by omega
      subst e
      rw [if_neg h2, List.getElem?_append_right (Nat.le_refl _), Nat.sub_self]
      show _ = some ((if k = k then upd (J k) (σ k).length x else J k) (σ k).length)
      rw [if_pos rfl]
      simp [upd]
  · rw [List.getElem?_eq_none_iff.mpr (by simp; omega), List.getElem?_eq_none_iff.mpr (by simp; omega)]
theorem p_copy {k2 n : Nat} (S : CallFix p m c cc nL s args qA own) (hI : Inj L) (hK : Kn L s) (h : Hd L H0 H σ locs) (hml : c.maxLocals = ls.size) (hk2 : kd k2 = 4) (hk : kd k = 4) (hkk : k2 ≠ k) (hn2 : n ≤ (σ k2).length) (hn : (σ k).length = n) (w1 : Cond.methodLink own index arraycopyName ∈ qA) (w2 : Cond.native arraycopyName ∈ qA) (w3 : Cond.static arraycopyName ∈ qA) (w4 : Cond.initialized RJ10 ∈ qA) (hfr : 1 ≤ R.frames) (hlo : (rest.map fun v => v.category).sum + (nativeFrameWords "java/lang/System" "arraycopy" 5 + 11) ≤ R.locals) (hd : decode cc pc = .ok (.invokestatic index, 3))
    (kk : ∀ (H1 : Heap) (locs1 : List Loc), Hd L H0 H1 (up σ k ((σ k2).take n)) locs1 → W p l e R s m args below meth c H1 locs1 cells slots Q (F0 m (pc + 3) ls rest)) : W p l e R s m args below meth c H locs cells slots Q (F0 m pc ls (.int (nI n) :: .int (nI 0) :: .ref (ad L (k+1)) :: .int (nI 0) :: .ref (ad L (k2+1)) :: rest)) := by
  obtain ⟨J, hJ⟩ := h.J
  have h9 := kd_4n k (kd_of hk) hk
  have h92 := kd_4n k2 (kd_of hk2) hk2
  have hc := h.ok k hk
  have hc2 := h.ok k2 hk2
  have h200 := h.ok.len hk
  have z0 : (nI 0).toNatClampNeg = 0 := nI_clamp (by omega)
  have zn : (nI n).toNatClampNeg = n := nI_clamp (by omega)
  refine va_copyi (D := L.1) (n0 := cp k2) (n1 := cp k) (f := ph σ J k2) (g := ph σ J k) (ty := .int) S.1 S.2.1 hml S.2.2.2.1 (S.2.2.2.2 _ w1) (S.2.2.2.2 _ w2) (S.2.2.2.2 _ w3) (S.2.2.2.2 _ w4) hK.1 hJ.2.1 (hI.D σ J) hJ.2.2 (k2+1) (k+1) 0 0 (by rw [wld_at h92.2, cnt_9 h92.1]; rfl) (by rw [wld_at h9.2, cnt_9 h9.1]; rfl) rfl rfl rfl (nI_pos (by omega)) (nI_pos (by omega)) (nI_pos (by omega)) (by rw [z0, zn]; omega) (by rw [z0, zn]; omega) (fun _ _ => rfl) hfr hlo hd (fun H1 locs1 hP1 _ hS1 => kk H1 locs1 ⟨⟨wok_up h.ok (fun _ => by rw [List.length_take]; omega), J, ?_⟩, hS1⟩)
  rw [z0, zn] at hP1
  have hlt : ((σ k2).take n).length = n := by rw [List.length_take]; omega
  rw [wld_set (σ' := up σ k ((σ k2).take n)) (J' := J) h9.2 ?_ ?_] at hP1
  · exact hP1
  · rw [cnt_9 h9.1]
    simp only [Nat.add_sub_cancel]
    congr 4
    funext j
    by_cases hj : j < n
    · rw [pk_cpy_in (by omega) (by omega), ph, if_pos (by rw [up_s, hlt]; exact hj), up_s, ph, if_pos (by omega), List.getD_eq_getElem?_getD, List.getD_eq_getElem?_getD, List.getElem?_take_of_lt hj, Nat.zero_add, Nat.sub_zero]
    · rw [pk_cpy_out (by omega), ph, if_neg (by rw [up_s, hlt]; exact hj), ph, if_neg (by omega)]
  · intro j hj hjk
    by_cases hjk2 : j = k
    · subst hjk2
      rw [cnt_4 hk, cnt_4 hk, up_s, hlt, hn]
    · exact cnt_up hj hjk2 (fun _ q => hjk (by omega))
end QM
/-! what a row's methods make of its ints -/
def swp {α : Type} (d : α) (l : List α) (i j : Nat) : List α := (l.set i (l.getD j d)).set j (l.getD i d)
def sift {α : Type} (d : α) (gt : α → α → Bool) : Nat → List α → List α
  | 0, l => l
  | i + 1, l => if gt (l.getD i d) (l.getD (i + 1) d) then sift d gt i (swp d l i (i + 1)) else l
def gtI (a b : Int32) : Bool := decide (b < a)
def ins (l : List Int32) (v : Int32) : List Int32 := sift 0 gtI l.length (l ++ [v])
def isum (l : List Int32) : Nat → Int32
  | 0 => 0
  | n + 1 => isum l n + l.getD n 0
def imin (l : List Int32) : Nat → Int32
  | 0 => 2147483647
  | n + 1 => if l.getD n 0 < imin l n then l.getD n 0 else imin l n
def imax (l : List Int32) : Nat → Int32
  | 0 => -2147483648
  | n + 1 => if imax l n < l.getD n 0 then l.getD n 0 else imax l n
theorem swp_len {α : Type} {d : α} {l : List α} {i j : Nat} : (swp d l i j).length = l.length := by simp [swp]
theorem sift_len {α : Type} {d : α} {gt : α → α → Bool} : ∀ (i : Nat) (l : List α), (sift d gt i l).length = l.length
  | 0, _ => rfl
  | i + 1, l => by
    unfold sift
    split
    · rw [sift_len i, swp_len]
    · rfl
theorem ins_len {l : List Int32} {v : Int32} : (ins l v).length = l.length + 1 := by rw [ins, sift_len]; simp
end
section
theorem up_of {σ σ1 : St} {k : Nat} {l : List Int32} (hu : up σ k (σ1 k) = σ1) : up σ k l = up σ1 k l := by
  funext j
  by_cases h : j = k
  · rw [h, up_s, up_s]
  · rw [up_n h, up_n h]
    have := congrFun hu j
    rw [up_n h] at this
    exact this
theorem take_snoc {α : Type} {d : α} {l : List α} {i : Nat} (h : i < l.length) : l.take i ++ [l.getD i d] = l.take (i + 1) := by
  rw [List.take_succ_eq_append_getElem h, List.getD_eq_getElem?_getD, List.getElem?_eq_getElem h]
  rfl
abbrev rX4_length : Room := { frames := 0, cells := 0, slots := 0, locals := 0 }
theorem yd_X4_length : ydV yX4_length RX4 0 := ⟨rfl, by decide +kernel, by decide +kernel, by decide +kernel⟩
set_option maxHeartbeats 4000000 in
set_option maxRecDepth 100000 in
theorem c_X4_length (l : Launch) (L : Lay) (σ : St) {k : Nat} (hk : kd k = 4) : Mf l L yX4_length (Cond.code yX4_length cX4_length 1 (some FieldType.int) :: qA) rX4_length [.ref (ad L k)] σ (some (.int (nI ((σ k).length)))) σ := by
  refine Mf.ofW (by decide) (Nat.le_of_ble_eq_true rfl) ?_
  intro p e s m args below meth c ls post hp hI S hr hlk hK h hl
  have hx := S.1
  have hb := S.2.1
  have hok := h.ok
  have hl : lv_has ls 1 [(0, .ref (ad L k))] := hl
  refine lv_aload_n hx hb dX4_length_0 rfl (lv_at hl 0 rfl) ?_
  refine g_len S hK h hk q_36 dX4_length_1 ?_
  exact e_i S hK h hr hlk dX4_length_4 hp

abbrev rX4_at : Room := { frames := 0, cells := 0, slots := 0, locals := 0 }
theorem yd_X4_at : ydV yX4_at RX4 1 := ⟨rfl, by decide +kernel, by decide +kernel, by decide +kernel⟩
set_option maxHeartbeats 4000000 in
set_option maxRecDepth 100000 in
theorem c_X4_at (l : Launch) (L : Lay) (σ : St) {k j : Nat} (hk : kd k = 4) (hj : j < 2 ^ 31) : Mf l L yX4_at (Cond.code yX4_at cX4_at 2 (some FieldType.int) :: qA) rX4_at [.ref (ad L k), .int (nI j)] σ (some (.int ((σ k).getD j 0))) σ := by
  refine Mf.ofW (by decide) (Nat.le_of_ble_eq_true rfl) ?_
  intro p e s m args below meth c ls post hp hI S hr hlk hK h hl
  have hx := S.1
  have hb := S.2.1
  have hok := h.ok
  have hl : lv_has ls 2 [(0, .ref (ad L k)), (1, .int (nI j))] := hl
  have h200 := hok.len hk
  refine lv_iload_n hx hb dX4_at_0 rfl (lv_at hl 1 rfl) ?_
  refine b_if_lt (tgt := 21) hx hb dX4_at_1 (by decide) (by omega) ?_
  refine lv_iload_n hx hb dX4_at_4 rfl (lv_at hl 1 rfl) ?_
  refine lv_aload_n hx hb dX4_at_5 rfl (lv_at hl 0 rfl) ?_
  refine g_len S hK h hk q_36 dX4_at_6 ?_
  refine b_icmp_ge (tgt := 21) hx hb dX4_at_9 (by decide) (by omega) (by omega) (fun c_9 => ?_) (fun c_9 => ?_)
  · rw [show (σ k).getD j 0 = 0 from by rw [List.getD_eq_getElem?_getD, List.getElem?_eq_none_iff.mpr c_9]; rfl] at hp
    refine lv_iconst (v := (nI 0)) hx hb dX4_at_21 (by decide) ?_
    exact e_i S hK h hr hlk dX4_at_22 hp
  · refine lv_aload_n hx hb dX4_at_12 rfl (lv_at hl 0 rfl) ?_
    refine g_cells S hK h hk q_35 dX4_at_13 ?_
    refine lv_iload_n hx hb dX4_at_16 rfl (lv_at hl 1 rfl) ?_
    refine g_el S hK h hk (by omega) dX4_at_17 ?_
    refine lv_goto (tgt := 22) hx hb dX4_at_18 (by decide) ?_
    exact e_i S hK h hr hlk dX4_at_22 hp

abbrev rX4_put : Room := { frames := 0, cells := 0, slots := 0, locals := 0 }
theorem yd_X4_put : ydV yX4_put RX4 2 := ⟨rfl, by decide +kernel, by decide +kernel, by decide +kernel⟩
set_option maxHeartbeats 4000000 in
set_option maxRecDepth 100000 in
theorem c_X4_put (l : Launch) (L : Lay) (σ : St) {k j : Nat} (hk : kd k = 4) (hj : j < 2 ^ 31) (v : Int32) : Mf l L yX4_put (Cond.code yX4_put cX4_put 3 none :: qA) rX4_put [.ref (ad L k), .int (nI j), .int v] σ none (up σ k ((σ k).set j v)) := by
  refine Mf.ofW (by decide) (Nat.le_of_ble_eq_true rfl) ?_
  intro p e s m args below meth c ls post hp hI S hr hlk hK h hl
  have hx := S.1
  have hb := S.2.1
  have hok := h.ok
  have hl : lv_has ls 3 [(0, .ref (ad L k)), (1, .int (nI j)), (2, .int v)] := hl
  have h200 := hok.len hk
  refine lv_iload_n hx hb dX4_put_0 rfl (lv_at hl 1 rfl) ?_
  refine b_if_lt (tgt := 19) hx hb dX4_put_1 (by decide) (by omega) ?_
  refine lv_iload_n hx hb dX4_put_4 rfl (lv_at hl 1 rfl) ?_
  refine lv_aload_n hx hb dX4_put_5 rfl (lv_at hl 0 rfl) ?_
  refine g_len S hK h hk q_36 dX4_put_6 ?_
  refine b_icmp_ge (tgt := 19) hx hb dX4_put_9 (by decide) (by omega) (by omega) (fun c_9 => ?_) (fun c_9 => ?_)
  · rw [List.set_eq_of_length_le c_9, up_id rfl] at hp
    exact e_v S hK h hr hlk dX4_put_19 hp
  · refine lv_aload_n hx hb dX4_put_12 rfl (lv_at hl 0 rfl) ?_
    refine g_cells S hK h hk q_35 dX4_put_13 ?_
    refine lv_iload_n hx hb dX4_put_16 rfl (lv_at hl 1 rfl) ?_
    refine lv_iload_n hx hb dX4_put_17 rfl (lv_at hl 2 rfl) ?_
    refine p_set S hI hK h hk (by omega) dX4_put_18 (fun H locs h => ?_)
    exact e_v S hK h hr hlk dX4_put_19 hp

abbrev rX4_append : Room := { frames := 0, cells := 0, slots := 0, locals := 0 }
theorem yd_X4_append : ydV yX4_append RX4 1 := ⟨rfl, by decide +kernel, by decide +kernel, by decide +kernel⟩
set_option maxHeartbeats 4000000 in
set_option maxRecDepth 100000 in
theorem c_X4_append (l : Launch) (L : Lay) (σ : St) {k : Nat} (hk : kd k = 4) (hc : (σ k).length < cp k) (v : Int32) : Mf l L yX4_append (Cond.code yX4_append cX4_append 2 none :: qA) rX4_append [.ref (ad L k), .int v] σ none (up σ k (σ k ++ [v])) := by
  refine Mf.ofW (by decide) (Nat.le_of_ble_eq_true rfl) ?_
  intro p e s m args below meth c ls post hp hI S hr hlk hK h hl
  have hx := S.1
  have hb := S.2.1
  have hok := h.ok
  have hl : lv_has ls 2 [(0, .ref (ad L k)), (1, .int v)] := hl
  have h200 := hok.len hk
  have hcp := cp_le k (kd_of hk)
  obtain ⟨J, hJ⟩ := h.J
  refine lv_aload_n hx hb dX4_append_0 rfl (lv_at hl 0 rfl) ?_
  refine g_len S hK h hk q_36 dX4_append_1 ?_
  refine lv_aload_n hx hb dX4_append_4 rfl (lv_at hl 0 rfl) ?_
  refine g_cells S hK h hk q_35 dX4_append_5 ?_
  refine g_alen S hK h hk dX4_append_8 ?_
  refine b_icmp_ge (tgt := 32) hx hb dX4_append_9 (by decide) (by omega) (by omega) (fun c_9 => absurd c_9 (by omega)) (fun c_9 => ?_)
  refine lv_aload_n hx hb dX4_append_12 rfl (lv_at hl 0 rfl) ?_
  refine g_cells S hK h hk q_35 dX4_append_13 ?_
  refine lv_aload_n hx hb dX4_append_16 rfl (lv_at hl 0 rfl) ?_
  refine g_len S hK h hk q_36 dX4_append_17 ?_
  refine lv_iload_n hx hb dX4_append_20 rfl (lv_at hl 1 rfl) ?_
  refine p_setJ S hI hK hJ hk (Nat.le_refl _) hc dX4_append_21 (fun H locs hJ => ?_)
  have h := hJ.hd
  refine lv_aload_n hx hb dX4_append_22 rfl (lv_at hl 0 rfl) ?_
  refine lv_dup hx hb dX4_append_23 rfl ?_
  refine g_len S hK h hk q_36 dX4_append_24 ?_
  refine lv_iconst (v := (nI 1)) hx hb dX4_append_27 (by decide) ?_
  refine a_iadd hx hb dX4_append_28 ?_
  refine p_lenP S hI hK hJ hk hc q_36 dX4_append_29 (fun H locs h => ?_)
  exact e_v S hK h hr hlk dX4_append_32 hp

abbrev rX4_empty : Room := { frames := 0, cells := 0, slots := 0, locals := 0 }
theorem yd_X4_empty : ydV yX4_empty RX4 0 := ⟨rfl, by decide +kernel, by decide +kernel, by decide +kernel⟩
set_option maxHeartbeats 4000000 in
set_option maxRecDepth 100000 in
theorem c_X4_empty (l : Launch) (L : Lay) (σ : St) {k : Nat} (hk : kd k = 4) : Mf l L yX4_empty (Cond.code yX4_empty cX4_empty 1 none :: qA) rX4_empty [.ref (ad L k)] σ none (up σ k []) := by
  refine Mf.ofW (by decide) (Nat.le_of_ble_eq_true rfl) ?_
  intro p e s m args below meth c ls post hp hI S hr hlk hK h hl
  have hx := S.1
  have hb := S.2.1
  have hok := h.ok
  have hl : lv_has ls 1 [(0, .ref (ad L k))] := hl
  obtain ⟨J, hJ⟩ := h.J
  refine lv_aload_n hx hb dX4_empty_0 rfl (lv_at hl 0 rfl) ?_
  refine lv_iconst (v := (nI 0)) hx hb dX4_empty_1 (by decide) ?_
  refine p_lenJ (n := 0) (l' := ([] : List Int32)) S hI hK hJ hk (Nat.zero_le _) rfl q_36 dX4_empty_2 (fun H locs h => ?_)
  exact e_v S hK h hr hlk dX4_empty_5 hp

abbrev rX4_shortenTo : Room := { frames := 0, cells := 0, slots := 0, locals := 0 }
theorem yd_X4_shortenTo : ydV yX4_shortenTo RX4 1 := ⟨rfl, by decide +kernel, by decide +kernel, by decide +kernel⟩
set_option maxHeartbeats 4000000 in
set_option maxRecDepth 100000 in
theorem c_X4_shortenTo (l : Launch) (L : Lay) (σ : St) {k n : Nat} (hk : kd k = 4) (hn : n < 2 ^ 31) : Mf l L yX4_shortenTo (Cond.code yX4_shortenTo cX4_shortenTo 2 none :: qA) rX4_shortenTo [.ref (ad L k), .int (nI n)] σ none (up σ k ((σ k).take n)) := by
  refine Mf.ofW (by decide) (Nat.le_of_ble_eq_true rfl) ?_
  intro p e s m args below meth c ls post hp hI S hr hlk hK h hl
  have hx := S.1
  have hb := S.2.1
  have hok := h.ok
  have hl : lv_has ls 2 [(0, .ref (ad L k)), (1, .int (nI n))] := hl
  have h200 := hok.len hk
  refine lv_iload_n hx hb dX4_shortenTo_0 rfl (lv_at hl 1 rfl) ?_
  refine b_if_lt (tgt := 17) hx hb dX4_shortenTo_1 (by decide) (by omega) ?_
  refine lv_iload_n hx hb dX4_shortenTo_4 rfl (lv_at hl 1 rfl) ?_
  refine lv_aload_n hx hb dX4_shortenTo_5 rfl (lv_at hl 0 rfl) ?_
  refine g_len S hK h hk q_36 dX4_shortenTo_6 ?_
  refine b_icmp_ge (tgt := 17) hx hb dX4_shortenTo_9 (by decide) (by omega) (by omega) (fun c_9 => ?_) (fun c_9 => ?_)
  · rw [List.take_of_length_le c_9, up_id rfl] at hp
    exact e_v S hK h hr hlk dX4_shortenTo_17 hp
  · refine lv_aload_n hx hb dX4_shortenTo_12 rfl (lv_at hl 0 rfl) ?_
    refine lv_iload_n hx hb dX4_shortenTo_13 rfl (lv_at hl 1 rfl) ?_
    refine p_lenT S hI hK h hk (Nat.le_of_lt c_9) q_36 dX4_shortenTo_14 (fun H locs h => ?_)
    exact e_v S hK h hr hlk dX4_shortenTo_17 hp

abbrev rX4_exchange : Room := { frames := 0, cells := 0, slots := 0, locals := 0 }
theorem yd_X4_exchange : ydV yX4_exchange RX4 2 := ⟨rfl, by decide +kernel, by decide +kernel, by decide +kernel⟩
set_option maxHeartbeats 4000000 in
set_option maxRecDepth 100000 in
theorem c_X4_exchange (l : Launch) (L : Lay) (σ : St) {k i j : Nat} (hk : kd k = 4) (hi : i < (σ k).length) (hj : j < (σ k).length) : Mf l L yX4_exchange (Cond.code yX4_exchange cX4_exchange 4 none :: qA) rX4_exchange [.ref (ad L k), .int (nI i), .int (nI j)] σ none (up σ k (swp 0 (σ k) i j)) := by
  refine Mf.ofW (by decide) (Nat.le_of_ble_eq_true rfl) ?_
  intro p e s m args below meth c ls post hp hI S hr hlk hK h hl
  have hx := S.1
  have hb := S.2.1
  have hok := h.ok
  have hl : lv_has ls 4 [(0, .ref (ad L k)), (1, .int (nI i)), (2, .int (nI j))] := hl
  have h200 := hok.len hk
  refine lv_iload_n hx hb dX4_exchange_0 rfl (lv_at hl 1 rfl) ?_
  refine b_if_lt (tgt := 50) hx hb dX4_exchange_1 (by decide) (by omega) ?_
  refine lv_iload_n hx hb dX4_exchange_4 rfl (lv_at hl 1 rfl) ?_
  refine lv_aload_n hx hb dX4_exchange_5 rfl (lv_at hl 0 rfl) ?_
  refine g_len S hK h hk q_36 dX4_exchange_6 ?_
  refine b_icmp_ge (tgt := 50) hx hb dX4_exchange_9 (by decide) (by omega) (by omega) (fun c_9 => absurd c_9 (by omega)) (fun c_9 => ?_)
  refine lv_iload_n hx hb dX4_exchange_12 rfl (lv_at hl 2 rfl) ?_
  refine b_if_lt (tgt := 50) hx hb dX4_exchange_13 (by decide) (by omega) ?_
  refine lv_iload_n hx hb dX4_exchange_16 rfl (lv_at hl 2 rfl) ?_
  refine lv_aload_n hx hb dX4_exchange_17 rfl (lv_at hl 0 rfl) ?_
  refine g_len S hK h hk q_36 dX4_exchange_18 ?_
  refine b_icmp_ge (tgt := 50) hx hb dX4_exchange_21 (by decide) (by omega) (by omega) (fun c_21 => absurd c_21 (by omega)) (fun c_21 => ?_)
  refine lv_aload_n hx hb dX4_exchange_24 rfl (lv_at hl 0 rfl) ?_
  refine g_cells S hK h hk q_35 dX4_exchange_25 ?_
  refine lv_iload_n hx hb dX4_exchange_28 rfl (lv_at hl 1 rfl) ?_
  refine g_el S hK h hk (by omega) dX4_exchange_29 ?_
  refine lv_istore_n (lv' := [(3, .int ((σ k).getD i 0)), (0, .ref (ad L k)), (1, .int (nI i)), (2, .int (nI j))]) hx hb dX4_exchange_30 rfl hl (by decide) rfl (fun ls hl => ?_)
  refine lv_aload_n hx hb dX4_exchange_31 rfl (lv_at hl 1 rfl) ?_
  refine g_cells S hK h hk q_35 dX4_exchange_32 ?_
  refine lv_iload_n hx hb dX4_exchange_35 rfl (lv_at hl 2 rfl) ?_
  refine lv_aload_n hx hb dX4_exchange_36 rfl (lv_at hl 1 rfl) ?_
  refine g_cells S hK h hk q_35 dX4_exchange_37 ?_
  refine lv_iload_n hx hb dX4_exchange_40 rfl (lv_at hl 3 rfl) ?_
  refine g_el S hK h hk (by omega) dX4_exchange_41 ?_
  refine p_set S hI hK h hk (by omega) dX4_exchange_42 (fun H locs h => ?_)
  have h := h.to (show up σ k ((σ k).set i ((σ k).getD j 0)) = up σ k ((σ k).set i ((σ k).getD j 0)) from rfl)
  refine lv_aload_n hx hb dX4_exchange_43 rfl (lv_at hl 1 rfl) ?_
  refine g_cells S hK h hk q_35 dX4_exchange_44 ?_
  refine lv_iload_n hx hb dX4_exchange_47 rfl (lv_at hl 3 rfl) ?_
  refine lv_iload_n hx hb dX4_exchange_48 rfl (lv_at hl 0 rfl) ?_
  refine p_set S hI hK h hk (by rw [up_s, List.length_set]; exact hj) dX4_exchange_49 (fun H locs h => ?_)
  exact e_v S hK h hr hlk dX4_exchange_50 (fin_p hp rfl (by rw [up_up, up_s]; rfl))

abbrev rX4_copyFrom : Room := { frames := 1, cells := 0, slots := 0, locals := 60 }
theorem yd_X4_copyFrom : ydV yX4_copyFrom RX4 1 := ⟨rfl, by decide +kernel, by decide +kernel, by decide +kernel⟩
set_option maxHeartbeats 4000000 in
set_option maxRecDepth 100000 in
theorem c_X4_copyFrom (l : Launch) (L : Lay) (σ : St) {k k2 : Nat} (hk : kd k = 4) (hk2 : kd k2 = 4) (hkk : k2 ≠ k) (hc : (σ k2).length ≤ cp k) : Mf l L yX4_copyFrom (Cond.code yX4_copyFrom cX4_copyFrom 2 none :: qA) rX4_copyFrom [.ref (ad L k), .ref (ad L k2)] σ none (up σ k (σ k2)) := by
  refine Mf.ofW (by decide) (Nat.le_of_ble_eq_true rfl) ?_
  intro p e s m args below meth c ls post hp hI S hr hlk hK h hl
  have hx := S.1
  have hb := S.2.1
  have hok := h.ok
  have hl : lv_has ls 2 [(0, .ref (ad L k)), (1, .ref (ad L k2))] := hl
  have h200 := hok.len hk2
  have hcp := cp_le k (kd_of hk)
  refine lv_aload_n hx hb dX4_copyFrom_0 rfl (lv_at hl 0 rfl) ?_
  refine lv_aload_n hx hb dX4_copyFrom_1 rfl (lv_at hl 1 rfl) ?_
  refine g_len S hK h hk2 q_36 dX4_copyFrom_2 ?_
  refine lv_aload_n hx hb dX4_copyFrom_5 rfl (lv_at hl 0 rfl) ?_
  refine g_cells S hK h hk q_35 dX4_copyFrom_6 ?_
  refine g_alen S hK h hk dX4_copyFrom_9 ?_
  refine va_mmin hx hb (S.2.2.1.trans hl.1.symm) S.2.2.2.1 (S.2.2.2.2 _ q_252) (S.2.2.2.2 _ q_253) (S.2.2.2.2 _ q_4) (S.2.2.2.2 _ q_254) (Nat.le_of_ble_eq_true rfl) (Nat.le_of_ble_eq_true rfl) (Nat.zero_le _) (Nat.zero_le _) dX4_copyFrom_10 ?_
  refine cv_i (show (if (nI (cp k)) < (nI ((σ k2).length)) then (nI (cp k)) else (nI ((σ k2).length)) : Int32) = nI ((σ k2).length) from (by rcases Nat.lt_or_ge (cp k) (σ k2).length with q | q; exact absurd q (by omega); exact if_neg (fun z => absurd ((nI_ltI (by omega) (by omega)).mp z) (by omega)))) ?_
  refine p_lenA S hI hK h hk hc q_36 dX4_copyFrom_13 (fun l' hl' H locs h => ?_)
  refine lv_aload_n hx hb dX4_copyFrom_16 rfl (lv_at hl 1 rfl) ?_
  refine g_cells S hK h hk2 q_35 dX4_copyFrom_17 ?_
  refine lv_iconst (v := (nI 0)) hx hb dX4_copyFrom_20 (by decide) ?_
  refine lv_aload_n hx hb dX4_copyFrom_21 rfl (lv_at hl 0 rfl) ?_
  refine g_cells S hK h hk q_35 dX4_copyFrom_22 ?_
  refine lv_iconst (v := (nI 0)) hx hb dX4_copyFrom_25 (by decide) ?_
  refine lv_aload_n hx hb dX4_copyFrom_26 rfl (lv_at hl 0 rfl) ?_
  have e2 : (up σ k l') k2 = σ k2 := up_n hkk
  refine g_len S hK h hk q_36 dX4_copyFrom_27 ?_
  refine cv_i (show (nI (((up σ k l') k).length) : Int32) = nI ((σ k2).length) from (by rw [up_s, hl'])) ?_
  refine p_copy S hI hK h (S.2.2.1.trans hl.1.symm) hk2 hk hkk (Nat.le_of_eq (by rw [e2])) (by rw [up_s, hl']) q_255 q_257 q_256 q_11 (Nat.le_of_ble_eq_true rfl) (Nat.le_of_ble_eq_true rfl) dX4_copyFrom_30  (fun H locs h => ?_)
  exact e_v S hK h hr hlk dX4_copyFrom_33 (fin_p hp rfl (by rw [up_up, e2, List.take_of_length_le (Nat.le_refl _)]))

abbrev rX4_appendAll : Room := { frames := 1, cells := 0, slots := 0, locals := 21 }
theorem yd_X4_appendAll : ydV yX4_appendAll RX4 1 := ⟨rfl, by decide +kernel, by decide +kernel, by decide +kernel⟩
set_option maxHeartbeats 4000000 in
set_option maxRecDepth 100000 in
theorem c_X4_appendAll (l : Launch) (L : Lay) (σ : St) {k k2 : Nat} (hk : kd k = 4) (hk2 : kd k2 = 4) (hkk : k2 ≠ k) (hc : (σ k).length + (σ k2).length ≤ cp k) : Mf l L yX4_appendAll (Cond.code yX4_appendAll cX4_appendAll 3 none :: qA) rX4_appendAll [.ref (ad L k), .ref (ad L k2)] σ none (up σ k (σ k ++ σ k2)) := by
  refine Mf.ofW (by decide) (Nat.le_of_ble_eq_true rfl) ?_
  intro p e s m args below meth c ls post hp hI S hr hlk hK h hl
  have hx := S.1
  have hb := S.2.1
  have hok := h.ok
  have hl : lv_has ls 3 [(0, .ref (ad L k)), (1, .ref (ad L k2))] := hl
  have h200 := hok.len hk2
  have hcp := cp_le k (kd_of hk)
  refine lv_iconst (v := (nI 0)) hx hb dX4_appendAll_0 (by decide) ?_
  refine lv_istore_n (lv' := [(2, .int (nI 0)), (0, .ref (ad L k)), (1, .ref (ad L k2))]) hx hb dX4_appendAll_1 rfl hl (by decide) rfl (fun ls hl => ?_)
  have LP_2 : ∀ (n_2 : Nat) (i : Nat) (σ1 : St), (i ≤ (σ k2).length) → (σ1 = up σ k (σ k ++ (σ k2).take i)) → (σ k2).length - i < n_2 → ∀ (H : Heap) (locs : List Loc) (ls : Array Slot), Hd L s.heap H σ1 locs → lv_has ls 3 [(2, .int (nI i)), (0, .ref (ad L k)), (1, .ref (ad L k2))] → W p l e rX4_appendAll s m args below meth c H locs 0 0 (MQ below (Qg post (bs L) (Aw L)) args s 0 0 (Aw L)) (F0 m 2 ls []) := by
    intro n_2
    induction n_2 with
    | zero => intro i σ1; intros; omega
    | succ n_2 ih_2 =>
      intro i σ1 hi hσ hm_2 H locs ls h hl
      have hok := h.ok
      have e2 : σ1 k2 = σ k2 := by rw [hσ, up_n hkk]
      have e1 : σ1 k = σ k ++ (σ k2).take i := by rw [hσ, up_s]
      have e3 : (σ1 k).length = (σ k).length + i := by rw [e1, List.length_append, List.length_take]; omega
      refine lv_iload_n hx hb dX4_appendAll_2 rfl (lv_at hl 0 rfl) ?_
      refine lv_aload_n hx hb dX4_appendAll_3 rfl (lv_at hl 2 rfl) ?_
      refine g_len S hK h hk2 q_36 dX4_appendAll_4 ?_
      refine b_icmp_ge (tgt := 25) hx hb dX4_appendAll_7 (by decide) (by omega) (by rw [e2]; omega) (fun c_7 => ?_) (fun c_7 => ?_)
      · rw [e2] at c_7
        have e4 : i = (σ k2).length := by omega
        exact e_v S hK h hr hlk dX4_appendAll_25 (fin_p hp rfl (by rw [hσ, e4, List.take_of_length_le (Nat.le_refl _)]))
      · have e2' : (up σ k (σ k ++ (σ k2).take i)) k2 = σ k2 := up_n hkk
        rw [e2] at c_7
        refine lv_aload_n hx hb dX4_appendAll_10 rfl (lv_at hl 1 rfl) ?_
        refine lv_aload_n hx hb dX4_appendAll_11 rfl (lv_at hl 2 rfl) ?_
        refine lv_iload_n hx hb dX4_appendAll_12 rfl (lv_at hl 0 rfl) ?_
        refine q_V1 (ci := 4) S hI hK h [.int (nI i)] (c_X4_at l L σ1 hk2 (by omega)) hk2 rfl (by decide) q_223 q_224 q_225 q_3 q_226 yd_X4_at rfl ⟨⟨rfl, rfl⟩, ⟨(Nat.le_of_ble_eq_true rfl), (Nat.le_of_ble_eq_true rfl)⟩, Nat.le_refl _, Nat.le_refl _⟩ rfl (Nat.le_of_ble_eq_true rfl) hl.1 dX4_appendAll_13 (fun H locs h => ?_)
        refine q_V0 (ci := 4) S hI hK h [.int ((σ1 k2).getD i 0)] (c_X4_append l L σ1 hk (by omega) ((σ1 k2).getD i 0)) hk rfl (by decide) q_343 q_99 q_100 q_3 q_101 yd_X4_append rfl ⟨⟨rfl, rfl⟩, ⟨(Nat.le_of_ble_eq_true rfl), (Nat.le_of_ble_eq_true rfl)⟩, Nat.le_refl _, Nat.le_refl _⟩ rfl (Nat.le_of_ble_eq_true rfl) hl.1 dX4_appendAll_16 (fun H locs h => ?_)
        refine lv_iinc (v := (nI (i + 1))) (lv' := [(2, .int (nI (i + 1))), (0, .ref (ad L k)), (1, .ref (ad L k2))]) hx hb dX4_appendAll_19 hl (k := 0) rfl (iinc_1 _) (by decide) rfl (fun ls hl => ?_)
        refine lv_goto (tgt := 2) hx hb dX4_appendAll_22 (by decide) ?_
        exact ih_2 (i + 1) (up σ1 k ((σ1 k) ++ [(σ1 k2).getD i 0])) (by omega) (by rw [hσ, up_up, up_s, e2', List.append_assoc, take_snoc c_7]) (by omega) _ _ _ h (lv_sub hl [0, 1, 2] rfl)
  exact LP_2 _ 0 σ (by omega) (by rw [List.take_zero, List.append_nil, up_id rfl]) (Nat.lt_succ_self _) _ _ _ h (lv_sub hl [0, 1, 2] rfl)

abbrev rX4_insertInOrder : Room := { frames := 1, cells := 0, slots := 0, locals := 23 }
theorem yd_X4_insertInOrder : ydV yX4_insertInOrder RX4 1 := ⟨rfl, by decide +kernel, by decide +kernel, by decide +kernel⟩
set_option maxHeartbeats 4000000 in
set_option maxRecDepth 100000 in
theorem c_X4_insertInOrder (l : Launch) (L : Lay) (σ : St) {k : Nat} (hk : kd k = 4) (hc : (σ k).length < cp k) (v : Int32) : Mf l L yX4_insertInOrder (Cond.code yX4_insertInOrder cX4_insertInOrder 3 none :: qA) rX4_insertInOrder [.ref (ad L k), .int v] σ none (up σ k (ins (σ k) v)) := by
  refine Mf.ofW (by decide) (Nat.le_of_ble_eq_true rfl) ?_
  intro p e s m args below meth c ls post hp hI S hr hlk hK h hl
  have hx := S.1
  have hb := S.2.1
  have hok := h.ok
  have hl : lv_has ls 3 [(0, .ref (ad L k)), (1, .int v)] := hl
  have h200 := hok.len hk
  have hcp := cp_le k (kd_of hk)
  refine lv_aload_n hx hb dX4_insertInOrder_0 rfl (lv_at hl 0 rfl) ?_
  refine lv_iload_n hx hb dX4_insertInOrder_1 rfl (lv_at hl 1 rfl) ?_
  refine q_V0 (ci := 4) S hI hK h [.int v] (c_X4_append l L σ hk (by omega) v) hk rfl (by decide) q_343 q_99 q_100 q_3 q_101 yd_X4_append rfl ⟨⟨rfl, rfl⟩, ⟨(Nat.le_of_ble_eq_true rfl), (Nat.le_of_ble_eq_true rfl)⟩, Nat.le_refl _, Nat.le_refl _⟩ rfl (Nat.le_of_ble_eq_true rfl) hl.1 dX4_insertInOrder_2 (fun H locs h => ?_)
  obtain ⟨σ0, e_σ0⟩ : ∃ z : St, z = up σ k ((σ k) ++ [v]) := ⟨_, rfl⟩
  have h := h.to e_σ0.symm
  have e0 : (σ0 k).length = (σ k).length + 1 := by rw [e_σ0, up_s]; simp
  refine lv_aload_n hx hb dX4_insertInOrder_5 rfl (lv_at hl 0 rfl) ?_
  refine g_len S hK h hk q_36 dX4_insertInOrder_6 ?_
  refine lv_iconst (v := (nI 1)) hx hb dX4_insertInOrder_9 (by decide) ?_
  refine a_isub hx hb dX4_insertInOrder_10 (by omega) ?_
  refine cv_i (show (nI (((σ0 k).length) - 1) : Int32) = nI ((σ k).length) from (by rw [e0, Nat.add_sub_cancel])) ?_
  refine lv_istore_n (lv' := [(2, .int (nI ((σ k).length))), (0, .ref (ad L k)), (1, .int v)]) hx hb dX4_insertInOrder_11 rfl hl (by decide) rfl (fun ls hl => ?_)
  have LP_12 : ∀ (n_12 : Nat) (i : Nat) (σ1 : St), (i ≤ (σ k).length) → ((σ1 k).length = (σ k).length + 1) → (up σ k (σ1 k) = σ1) → (ins (σ k) v = sift 0 gtI i (σ1 k)) → i < n_12 → ∀ (H : Heap) (locs : List Loc) (ls : Array Slot), Hd L s.heap H σ1 locs → lv_has ls 3 [(2, .int (nI i)), (0, .ref (ad L k)), (1, .int v)] → W p l e rX4_insertInOrder s m args below meth c H locs 0 0 (MQ below (Qg post (bs L) (Aw L)) args s 0 0 (Aw L)) (F0 m 12 ls []) := by
    intro n_12
    induction n_12 with
    | zero => intro i σ1; intros; omega
    | succ n_12 ih_12 =>
      intro i σ1 hi hl1 hu hσ hm_12 H locs ls h hl
      have hok := h.ok
      refine lv_iload_n hx hb dX4_insertInOrder_12 rfl (lv_at hl 0 rfl) ?_
      refine b_if_le (tgt := 45) hx hb dX4_insertInOrder_13 (by decide) (by omega) (fun c_13 => ?_) (fun c_13 => ?_)
      · have hp9 : post none σ1 := fin_p hp rfl (by rw [hσ, c_13]; exact hu.symm)
        exact e_v S hK h hr hlk dX4_insertInOrder_45 hp9
      · obtain ⟨j, rfl⟩ : ∃ j, i = j + 1 := ⟨i - 1, by omega⟩
        refine lv_aload_n hx hb dX4_insertInOrder_16 rfl (lv_at hl 1 rfl) ?_
        refine lv_iload_n hx hb dX4_insertInOrder_17 rfl (lv_at hl 0 rfl) ?_
        refine lv_iconst (v := (nI 1)) hx hb dX4_insertInOrder_18 (by decide) ?_
        refine a_isub hx hb dX4_insertInOrder_19 (by omega) ?_
        refine cv_i (show (nI ((j + 1) - 1) : Int32) = nI j from (by rw [Nat.add_sub_cancel])) ?_
        refine q_V1 (ci := 4) S hI hK h [.int (nI j)] (c_X4_at l L σ1 hk (by omega)) hk rfl (by decide) q_223 q_224 q_225 q_3 q_226 yd_X4_at rfl ⟨⟨rfl, rfl⟩, ⟨(Nat.le_of_ble_eq_true rfl), (Nat.le_of_ble_eq_true rfl)⟩, Nat.le_refl _, Nat.le_refl _⟩ rfl (Nat.le_of_ble_eq_true rfl) hl.1 dX4_insertInOrder_20 (fun H locs h => ?_)
        refine lv_aload_n hx hb dX4_insertInOrder_23 rfl (lv_at hl 1 rfl) ?_
        refine lv_iload_n hx hb dX4_insertInOrder_24 rfl (lv_at hl 0 rfl) ?_
        refine q_V1 (ci := 4) S hI hK h [.int (nI (j + 1))] (c_X4_at l L σ1 hk (by omega)) hk rfl (by decide) q_223 q_224 q_225 q_3 q_226 yd_X4_at rfl ⟨⟨rfl, rfl⟩, ⟨(Nat.le_of_ble_eq_true rfl), (Nat.le_of_ble_eq_true rfl)⟩, Nat.le_refl _, Nat.le_refl _⟩ rfl (Nat.le_of_ble_eq_true rfl) hl.1 dX4_insertInOrder_25 (fun H locs h => ?_)
        refine lv_icmp_le (tgt := 45) hx hb dX4_insertInOrder_28 (by decide) (fun c_28 => ?_) (fun c_28 => ?_)
        · have hp9 : post none σ1 := fin_p hp rfl (by rw [hσ]; conv => { lhs; rw [← hu] }; congr 1; exact (if_neg (fun q => absurd (of_decide_eq_true q) (Int32.not_lt.mpr c_28))).symm)
          exact e_v S hK h hr hlk dX4_insertInOrder_45 hp9
        · refine lv_aload_n hx hb dX4_insertInOrder_31 rfl (lv_at hl 1 rfl) ?_
          refine lv_iload_n hx hb dX4_insertInOrder_32 rfl (lv_at hl 0 rfl) ?_
          refine lv_iconst (v := (nI 1)) hx hb dX4_insertInOrder_33 (by decide) ?_
          refine a_isub hx hb dX4_insertInOrder_34 (by omega) ?_
          refine cv_i (show (nI ((j + 1) - 1) : Int32) = nI j from (by rw [Nat.add_sub_cancel])) ?_
          refine lv_iload_n hx hb dX4_insertInOrder_35 rfl (lv_at hl 0 rfl) ?_
          refine q_V0 (ci := 4) S hI hK h [.int (nI j), .int (nI (j + 1))] (c_X4_exchange l L σ1 hk (by omega) (by omega)) hk rfl (by decide) q_344 q_309 q_310 q_3 q_311 yd_X4_exchange rfl ⟨⟨rfl, rfl⟩, ⟨(Nat.le_of_ble_eq_true rfl), (Nat.le_of_ble_eq_true rfl)⟩, Nat.le_refl _, Nat.le_refl _⟩ rfl (Nat.le_of_ble_eq_true rfl) hl.1 dX4_insertInOrder_36 (fun H locs h => ?_)
          refine lv_iinc (v := (nI j)) (lv' := [(2, .int (nI j)), (0, .ref (ad L k)), (1, .int v)]) hx hb dX4_insertInOrder_39 hl (k := 0) rfl (iinc_m1 _) (by decide) rfl (fun ls hl => ?_)
          refine lv_goto (tgt := 12) hx hb dX4_insertInOrder_42 (by decide) ?_
          exact ih_12 j (up σ1 k (swp 0 (σ1 k) j (j + 1))) (by omega) (by rw [up_s, swp_len]; exact hl1) (by rw [up_s]; exact up_of hu) (by rw [up_s, hσ]; exact if_pos (decide_eq_true (Int32.not_le.mp c_28))) (by omega) _ _ _ h (lv_sub hl [0, 1, 2] rfl)
  exact LP_12 _ ((σ k).length) σ0 (by omega) e0 (by rw [e_σ0, up_s]) (by rw [e_σ0, up_s]; rfl) (Nat.lt_succ_self _) _ _ _ h (lv_sub hl [0, 1, 2] rfl)

abbrev rX4_total : Room := { frames := 1, cells := 0, slots := 0, locals := 21 }
theorem yd_X4_total : ydV yX4_total RX4 0 := ⟨rfl, by decide +kernel, by decide +kernel, by decide +kernel⟩
set_option maxHeartbeats 4000000 in
set_option maxRecDepth 100000 in
theorem c_X4_total (l : Launch) (L : Lay) (σ : St) {k : Nat} (hk : kd k = 4) : Mf l L yX4_total (Cond.code yX4_total cX4_total 3 (some FieldType.int) :: qA) rX4_total [.ref (ad L k)] σ (some (.int (isum (σ k) (σ k).length))) σ := by
  refine Mf.ofW (by decide) (Nat.le_of_ble_eq_true rfl) ?_
  intro p e s m args below meth c ls post hp hI S hr hlk hK h hl
  have hx := S.1
  have hb := S.2.1
  have hok := h.ok
  have hl : lv_has ls 3 [(0, .ref (ad L k))] := hl
  have h200 := hok.len hk
  refine lv_iconst (v := (nI 0)) hx hb dX4_total_0 (by decide) ?_
  refine lv_istore_n (lv' := [(1, .int (nI 0)), (0, .ref (ad L k))]) hx hb dX4_total_1 rfl hl (by decide) rfl (fun ls hl => ?_)
  refine lv_iconst (v := (nI 0)) hx hb dX4_total_2 (by decide) ?_
  refine lv_istore_n (lv' := [(2, .int (nI 0)), (1, .int (nI 0)), (0, .ref (ad L k))]) hx hb dX4_total_3 rfl hl (by decide) rfl (fun ls hl => ?_)
  have LP_4 : ∀ (n_4 : Nat) (i : Nat) (acc : Int32), (i ≤ (σ k).length) → (acc = isum (σ k) i) → (σ k).length - i < n_4 → ∀ (H : Heap) (locs : List Loc) (ls : Array Slot), Hd L s.heap H σ locs → lv_has ls 3 [(2, .int (nI i)), (1, .int acc), (0, .ref (ad L k))] → W p l e rX4_total s m args below meth c H locs 0 0 (MQ below (Qg post (bs L) (Aw L)) args s 0 0 (Aw L)) (F0 m 4 ls []) := by
    intro n_4
    induction n_4 with
    | zero => intro i acc; intros; omega
    | succ n_4 ih_4 =>
      intro i acc hi ha hm_4 H locs ls h hl
      have hok := h.ok
      refine lv_iload_n hx hb dX4_total_4 rfl (lv_at hl 0 rfl) ?_
      refine lv_aload_n hx hb dX4_total_5 rfl (lv_at hl 2 rfl) ?_
      refine g_len S hK h hk q_36 dX4_total_6 ?_
      refine b_icmp_ge (tgt := 26) hx hb dX4_total_9 (by decide) (by omega) (by omega) (fun c_9 => ?_) (fun c_9 => ?_)
      · have e4 : i = (σ k).length := by omega
        refine lv_iload_n hx hb dX4_total_26 rfl (lv_at hl 1 rfl) ?_
        exact e_i S hK h hr hlk dX4_total_27 (fin_p hp (by rw [ha, e4]) rfl)
      · refine lv_iload_n hx hb dX4_total_12 rfl (lv_at hl 1 rfl) ?_
        refine lv_aload_n hx hb dX4_total_13 rfl (lv_at hl 2 rfl) ?_
        refine lv_iload_n hx hb dX4_total_14 rfl (lv_at hl 0 rfl) ?_
        refine q_V1 (ci := 4) S hI hK h [.int (nI i)] (c_X4_at l L σ hk (by omega)) hk rfl (by decide) q_223 q_224 q_225 q_3 q_226 yd_X4_at rfl ⟨⟨rfl, rfl⟩, ⟨(Nat.le_of_ble_eq_true rfl), (Nat.le_of_ble_eq_true rfl)⟩, Nat.le_refl _, Nat.le_refl _⟩ rfl (Nat.le_of_ble_eq_true rfl) hl.1 dX4_total_15 (fun H locs h => ?_)
        refine lv_iadd hx hb dX4_total_18 ?_
        refine lv_istore_n (lv' := [(1, .int (acc + ((σ k).getD i 0))), (2, .int (nI i)), (0, .ref (ad L k))]) hx hb dX4_total_19 rfl hl (by decide) rfl (fun ls hl => ?_)
        refine lv_iinc (v := (nI (i + 1))) (lv' := [(2, .int (nI (i + 1))), (1, .int (acc + ((σ k).getD i 0))), (0, .ref (ad L k))]) hx hb dX4_total_20 hl (k := 1) rfl (iinc_1 _) (by decide) rfl (fun ls hl => ?_)
        refine lv_goto (tgt := 4) hx hb dX4_total_23 (by decide) ?_
        exact ih_4 (i + 1) (acc + ((σ k).getD i 0)) (by omega) (by rw [ha]; rfl) (by omega) _ _ _ h (lv_sub hl [0, 1, 2] rfl)
  exact LP_4 _ 0 (nI 0) (by omega) rfl (Nat.lt_succ_self _) _ _ _ h (lv_sub hl [0, 1, 2] rfl)

abbrev rX4_least : Room := { frames := 1, cells := 0, slots := 0, locals := 21 }
theorem yd_X4_least : ydV yX4_least RX4 0 := ⟨rfl, by decide +kernel, by decide +kernel, by decide +kernel⟩
set_option maxHeartbeats 4000000 in
set_option maxRecDepth 100000 in
theorem c_X4_least (l : Launch) (L : Lay) (σ : St) {k : Nat} (hk : kd k = 4) : Mf l L yX4_least (Cond.code yX4_least cX4_least 3 (some FieldType.int) :: qA) rX4_least [.ref (ad L k)] σ (some (.int (imin (σ k) (σ k).length))) σ := by
  refine Mf.ofW (by decide) (Nat.le_of_ble_eq_true rfl) ?_
  intro p e s m args below meth c ls post hp hI S hr hlk hK h hl
  have hx := S.1
  have hb := S.2.1
  have hok := h.ok
  have hl : lv_has ls 3 [(0, .ref (ad L k))] := hl
  have h200 := hok.len hk
  refine lv_ldc (v := (2147483647 : Int32)) hx hb S.2.2.2.1 (S.2.2.2.2 _ q_429) dX4_least_0 ?_
  refine lv_istore_n (lv' := [(1, .int (2147483647 : Int32)), (0, .ref (ad L k))]) hx hb dX4_least_2 rfl hl (by decide) rfl (fun ls hl => ?_)
  refine lv_iconst (v := (nI 0)) hx hb dX4_least_3 (by decide) ?_
  refine lv_istore_n (lv' := [(2, .int (nI 0)), (1, .int (2147483647 : Int32)), (0, .ref (ad L k))]) hx hb dX4_least_4 rfl hl (by decide) rfl (fun ls hl => ?_)
  have LP_5 : ∀ (n_5 : Nat) (i : Nat) (acc : Int32), (i ≤ (σ k).length) → (acc = imin (σ k) i) → (σ k).length - i < n_5 → ∀ (H : Heap) (locs : List Loc) (ls : Array Slot), Hd L s.heap H σ locs → lv_has ls 3 [(2, .int (nI i)), (1, .int acc), (0, .ref (ad L k))] → W p l e rX4_least s m args below meth c H locs 0 0 (MQ below (Qg post (bs L) (Aw L)) args s 0 0 (Aw L)) (F0 m 5 ls []) := by
    intro n_5
    induction n_5 with
    | zero => intro i acc; intros; omega
    | succ n_5 ih_5 =>
      intro i acc hi ha hm_5 H locs ls h hl
      have hok := h.ok
      refine lv_iload_n hx hb dX4_least_5 rfl (lv_at hl 0 rfl) ?_
      refine lv_aload_n hx hb dX4_least_6 rfl (lv_at hl 2 rfl) ?_
      refine g_len S hK h hk q_36 dX4_least_7 ?_
      refine b_icmp_ge (tgt := 29) hx hb dX4_least_10 (by decide) (by omega) (by omega) (fun c_10 => ?_) (fun c_10 => ?_)
      · have e4 : i = (σ k).length := by omega
        refine lv_iload_n hx hb dX4_least_29 rfl (lv_at hl 1 rfl) ?_
        exact e_i S hK h hr hlk dX4_least_30 (fin_p hp (by rw [ha, e4]) rfl)
      · refine lv_iload_n hx hb dX4_least_13 rfl (lv_at hl 1 rfl) ?_
        refine lv_aload_n hx hb dX4_least_14 rfl (lv_at hl 2 rfl) ?_
        refine lv_iload_n hx hb dX4_least_15 rfl (lv_at hl 0 rfl) ?_
        refine q_V1 (ci := 4) S hI hK h [.int (nI i)] (c_X4_at l L σ hk (by omega)) hk rfl (by decide) q_223 q_224 q_225 q_3 q_226 yd_X4_at rfl ⟨⟨rfl, rfl⟩, ⟨(Nat.le_of_ble_eq_true rfl), (Nat.le_of_ble_eq_true rfl)⟩, Nat.le_refl _, Nat.le_refl _⟩ rfl (Nat.le_of_ble_eq_true rfl) hl.1 dX4_least_16 (fun H locs h => ?_)
        refine va_mmin hx hb (S.2.2.1.trans hl.1.symm) S.2.2.2.1 (S.2.2.2.2 _ q_252) (S.2.2.2.2 _ q_253) (S.2.2.2.2 _ q_4) (S.2.2.2.2 _ q_254) (Nat.le_of_ble_eq_true rfl) (Nat.le_of_ble_eq_true rfl) (Nat.zero_le _) (Nat.zero_le _) dX4_least_19 ?_
        refine lv_istore_n (lv' := [(1, .int (if ((σ k).getD i 0) < acc then ((σ k).getD i 0) else acc)), (2, .int (nI i)), (0, .ref (ad L k))]) hx hb dX4_least_22 rfl hl (by decide) rfl (fun ls hl => ?_)
        refine lv_iinc (v := (nI (i + 1))) (lv' := [(2, .int (nI (i + 1))), (1, .int (if ((σ k).getD i 0) < acc then ((σ k).getD i 0) else acc)), (0, .ref (ad L k))]) hx hb dX4_least_23 hl (k := 1) rfl (iinc_1 _) (by decide) rfl (fun ls hl => ?_)
        refine lv_goto (tgt := 5) hx hb dX4_least_26 (by decide) ?_
        exact ih_5 (i + 1) (if ((σ k).getD i 0) < acc then ((σ k).getD i 0) else acc) (by omega) (by rw [ha]; rfl) (by omega) _ _ _ h (lv_sub hl [0, 1, 2] rfl)
  exact LP_5 _ 0 (2147483647 : Int32) (by omega) rfl (Nat.lt_succ_self _) _ _ _ h (lv_sub hl [0, 1, 2] rfl)

abbrev rX4_greatest : Room := { frames := 1, cells := 0, slots := 0, locals := 21 }
theorem yd_X4_greatest : ydV yX4_greatest RX4 0 := ⟨rfl, by decide +kernel, by decide +kernel, by decide +kernel⟩
set_option maxHeartbeats 4000000 in
set_option maxRecDepth 100000 in
theorem c_X4_greatest (l : Launch) (L : Lay) (σ : St) {k : Nat} (hk : kd k = 4) : Mf l L yX4_greatest (Cond.code yX4_greatest cX4_greatest 3 (some FieldType.int) :: qA) rX4_greatest [.ref (ad L k)] σ (some (.int (imax (σ k) (σ k).length))) σ := by
  refine Mf.ofW (by decide) (Nat.le_of_ble_eq_true rfl) ?_
  intro p e s m args below meth c ls post hp hI S hr hlk hK h hl
  have hx := S.1
  have hb := S.2.1
  have hok := h.ok
  have hl : lv_has ls 3 [(0, .ref (ad L k))] := hl
  have h200 := hok.len hk
  refine lv_ldc (v := (-2147483648 : Int32)) hx hb S.2.2.2.1 (S.2.2.2.2 _ q_439) dX4_greatest_0 ?_
  refine lv_istore_n (lv' := [(1, .int (-2147483648 : Int32)), (0, .ref (ad L k))]) hx hb dX4_greatest_2 rfl hl (by decide) rfl (fun ls hl => ?_)
  refine lv_iconst (v := (nI 0)) hx hb dX4_greatest_3 (by decide) ?_
  refine lv_istore_n (lv' := [(2, .int (nI 0)), (1, .int (-2147483648 : Int32)), (0, .ref (ad L k))]) hx hb dX4_greatest_4 rfl hl (by decide) rfl (fun ls hl => ?_)
  have LP_5 : ∀ (n_5 : Nat) (i : Nat) (acc : Int32), (i ≤ (σ k).length) → (acc = imax (σ k) i) → (σ k).length - i < n_5 → ∀ (H : Heap) (locs : List Loc) (ls : Array Slot), Hd L s.heap H σ locs → lv_has ls 3 [(2, .int (nI i)), (1, .int acc), (0, .ref (ad L k))] → W p l e rX4_greatest s m args below meth c H locs 0 0 (MQ below (Qg post (bs L) (Aw L)) args s 0 0 (Aw L)) (F0 m 5 ls []) := by
    intro n_5
    induction n_5 with
    | zero => intro i acc; intros; omega
    | succ n_5 ih_5 =>
      intro i acc hi ha hm_5 H locs ls h hl
      have hok := h.ok
      refine lv_iload_n hx hb dX4_greatest_5 rfl (lv_at hl 0 rfl) ?_
      refine lv_aload_n hx hb dX4_greatest_6 rfl (lv_at hl 2 rfl) ?_
      refine g_len S hK h hk q_36 dX4_greatest_7 ?_
      refine b_icmp_ge (tgt := 29) hx hb dX4_greatest_10 (by decide) (by omega) (by omega) (fun c_10 => ?_) (fun c_10 => ?_)
      · have e4 : i = (σ k).length := by omega
        refine lv_iload_n hx hb dX4_greatest_29 rfl (lv_at hl 1 rfl) ?_
        exact e_i S hK h hr hlk dX4_greatest_30 (fin_p hp (by rw [ha, e4]) rfl)
      · refine lv_iload_n hx hb dX4_greatest_13 rfl (lv_at hl 1 rfl) ?_
        refine lv_aload_n hx hb dX4_greatest_14 rfl (lv_at hl 2 rfl) ?_
        refine lv_iload_n hx hb dX4_greatest_15 rfl (lv_at hl 0 rfl) ?_
        refine q_V1 (ci := 4) S hI hK h [.int (nI i)] (c_X4_at l L σ hk (by omega)) hk rfl (by decide) q_223 q_224 q_225 q_3 q_226 yd_X4_at rfl ⟨⟨rfl, rfl⟩, ⟨(Nat.le_of_ble_eq_true rfl), (Nat.le_of_ble_eq_true rfl)⟩, Nat.le_refl _, Nat.le_refl _⟩ rfl (Nat.le_of_ble_eq_true rfl) hl.1 dX4_greatest_16 (fun H locs h => ?_)
        refine va_mmax hx hb (S.2.2.1.trans hl.1.symm) S.2.2.2.1 (S.2.2.2.2 _ q_32) (S.2.2.2.2 _ q_33) (S.2.2.2.2 _ q_4) (S.2.2.2.2 _ q_34) (Nat.le_of_ble_eq_true rfl) (Nat.le_of_ble_eq_true rfl) (Nat.zero_le _) (Nat.zero_le _) dX4_greatest_19 ?_
        refine lv_istore_n (lv' := [(1, .int (if acc < ((σ k).getD i 0) then ((σ k).getD i 0) else acc)), (2, .int (nI i)), (0, .ref (ad L k))]) hx hb dX4_greatest_22 rfl hl (by decide) rfl (fun ls hl => ?_)
        refine lv_iinc (v := (nI (i + 1))) (lv' := [(2, .int (nI (i + 1))), (1, .int (if acc < ((σ k).getD i 0) then ((σ k).getD i 0) else acc)), (0, .ref (ad L k))]) hx hb dX4_greatest_23 hl (k := 1) rfl (iinc_1 _) (by decide) rfl (fun ls hl => ?_)
        refine lv_goto (tgt := 5) hx hb dX4_greatest_26 (by decide) ?_
        exact ih_5 (i + 1) (if acc < ((σ k).getD i 0) then ((σ k).getD i 0) else acc) (by omega) (by rw [ha]; rfl) (by omega) _ _ _ h (lv_sub hl [0, 1, 2] rfl)
  exact LP_5 _ 0 (-2147483648 : Int32) (by omega) rfl (Nat.lt_succ_self _) _ _ _ h (lv_sub hl [0, 1, 2] rfl)
end
section
/-! heaps: a list of (weight, sum, least, greatest), in four rows -/
abbrev Hp : Type := Int32 × Int32 × Int32 × Int32
abbrev h_w (x : Hp) : Int32 := x.1
abbrev h_s (x : Hp) : Int32 := x.2.1
abbrev h_l (x : Hp) : Int32 := x.2.2.1
abbrev h_g (x : Hp) : Int32 := x.2.2.2
abbrev hd0 : Hp := (0, 0, 0, 0)
def HV (σ : St) (h : Nat) (A : List Hp) : Prop := σ (h+1) = A.map h_w ∧ σ (h+3) = A.map h_s ∧ σ (h+5) = A.map h_l ∧ σ (h+7) = A.map h_g
def hset (σ : St) (h : Nat) (A : List Hp) : St := fun k => if k = h+1 then A.map h_w else if k = h+3 then A.map h_s else if k = h+5 then A.map h_l else if k = h+7 then A.map h_g else σ k
theorem hset_1 {σ : St} {h : Nat} {A : List Hp} : hset σ h A (h+1) = A.map h_w := by simp [hset]
theorem hset_3 {σ : St} {h : Nat} {A : List Hp} : hset σ h A (h+3) = A.map h_s := by simp [hset]
theorem hset_5 {σ : St} {h : Nat} {A : List Hp} : hset σ h A (h+5) = A.map h_l := by simp [hset]
theorem hset_7 {σ : St} {h : Nat} {A : List Hp} : hset σ h A (h+7) = A.map h_g := by simp [hset]
theorem hset_n {σ : St} {h k : Nat} {A : List Hp} (h1 : k ≠ h+1) (h3 : k ≠ h+3) (h5 : k ≠ h+5) (h7 : k ≠ h+7) : hset σ h A k = σ k := by simp [hset, h1, h3, h5, h7]
theorem HV.hset {σ : St} {h : Nat} {A : List Hp} : HV (hset σ h A) h A := ⟨hset_1, hset_3, hset_5, hset_7⟩
theorem hset_of {σ σ' : St} {h : Nat} {A : List Hp} (hv : HV σ' h A) (ho : ∀ k, k ≠ h+1 → k ≠ h+3 → k ≠ h+5 → k ≠ h+7 → σ' k = σ k) : σ' = hset σ h A := by
  funext k
  unfold hset
  split
  · rename_i e; rw [e]; exact hv.1
  · split
    · rename_i e; rw [e]; exact hv.2.1
    · split
      · rename_i e; rw [e]; exact hv.2.2.1
      · split
        · rename_i e; rw [e]; exact hv.2.2.2
        · exact ho k (by assumption) (by assumption) (by assumption) (by assumption)
theorem hset_id {σ : St} {h : Nat} {A : List Hp} (hv : HV σ h A) : hset σ h A = σ := (hset_of hv (fun _ _ _ _ _ => rfl)).symm
theorem hset_hset {σ : St} {h : Nat} {A B : List Hp} : hset (hset σ h A) h B = hset σ h B := by
  refine hset_of HV.hset (fun k h1 h3 h5 h7 => ?_)
  rw [hset_n h1 h3 h5 h7, hset_n h1 h3 h5 h7]
theorem getD_map {α β : Type} (f : α → β) (d : α) (l : List α) (i : Nat) : (l.map f).getD i (f d) = f (l.getD i d) := by
  rw [List.getD_eq_getElem?_getD, List.getD_eq_getElem?_getD, List.getElem?_map]
  cases l[i]? <;> rfl
theorem HV.len {σ : St} {h : Nat} {A : List Hp} (hv : HV σ h A) : (σ (h+1)).length = A.length ∧ (σ (h+3)).length = A.length ∧ (σ (h+5)).length = A.length ∧ (σ (h+7)).length = A.length := by
  obtain ⟨a, b, c, d⟩ := hv
  rw [a, b, c, d]
  simp
theorem HV.w {σ : St} {h : Nat} {A : List Hp} (hv : HV σ h A) (i : Nat) : (σ (h+1)).getD i 0 = h_w (A.getD i hd0) := by rw [hv.1]; exact getD_map h_w hd0 A i
theorem HV.s {σ : St} {h : Nat} {A : List Hp} (hv : HV σ h A) (i : Nat) : (σ (h+3)).getD i 0 = h_s (A.getD i hd0) := by rw [hv.2.1]; exact getD_map h_s hd0 A i
theorem HV.l {σ : St} {h : Nat} {A : List Hp} (hv : HV σ h A) (i : Nat) : (σ (h+5)).getD i 0 = h_l (A.getD i hd0) := by rw [hv.2.2.1]; exact getD_map h_l hd0 A i
theorem HV.g {σ : St} {h : Nat} {A : List Hp} (hv : HV σ h A) (i : Nat) : (σ (h+7)).getD i 0 = h_g (A.getD i hd0) := by rw [hv.2.2.2]; exact getD_map h_g hd0 A i
theorem HV.le {σ : St} {h : Nat} {A : List Hp} (hv : HV σ h A) (hok : wok σ) (hk : kd h = 1) : A.length ≤ 200 := by
  rw [← hv.len.1]
  exact hok.len (kd1_1 hk)
/-- two different heaps lie apart -/
theorem kd11 {h h2 : Nat} (a : kd h = 1) (b : kd h2 = 1) (n : h ≠ h2) : h + 9 ≤ h2 ∨ h2 + 9 ≤ h := by
  have key : ∀ i, i < 245 → kd i = 1 → ∀ d, d < 9 → d ≠ 0 → kd (i + d) ≠ 1 := by decide +kernel
  rcases Nat.lt_or_ge h2 h with q | q
  · rcases Nat.lt_or_ge h (h2 + 9) with r | r
    · have := key h2 (kd_of b) b (h - h2) (by omega) (by omega)
      rw [show h2 + (h - h2) = h by omega] at this
      exact absurd a this
    · exact Or.inr r
  · rcases Nat.lt_or_ge h2 (h + 9) with r | r
    · have := key h (kd_of a) a (h2 - h) (by omega) (by omega)
      rw [show h + (h2 - h) = h2 by omega] at this
      exact absurd b this
    · exact Or.inl r
def hunit (v : Int32) : Hp := (1, v, v, v)
/-- one heap's middle is above another's -/
def gtH (a b : Hp) : Bool := decide ((h_s b).toInt * (h_w a).toInt < (h_s a).toInt * (h_w b).toInt)
def oSort (A : List Hp) : Nat → List Hp
  | 0 => A
  | n + 1 => sift hd0 gtH (n + 1) (oSort A n)
theorem oSort_len {A : List Hp} : ∀ n, (oSort A n).length = A.length
  | 0 => rfl
  | n + 1 => by rw [oSort, sift_len, oSort_len n]
def order (A : List Hp) : List Hp := oSort A (A.length - 1)
def wiB (both ahead total f : Int32) : Bool := decide (both * total * f ≤ (nI 2 * ahead + both) * (nI 2 * total - nI 2 * ahead - both))
def unI (a b : Hp) : Hp := (h_w a + h_w b, h_s a + h_s b, if h_l b < h_l a then h_l b else h_l a, if h_g a < h_g b then h_g b else h_g a)
def mg (f tot : Int32) : Int32 → Hp → List Hp → List Hp
  | _, o, [] => [o]
  | a, o, x :: r => if wiB (h_w o + h_w x) a tot f then mg f tot a (unI o x) r else o :: mg f tot (a + h_w o) x r
def ptog (f : Int32) : List Hp → List Hp
  | [] => []
  | x :: r => mg f (isum ((x :: r).map h_w) (r.length + 1)) 0 x r
def packL (f : Int32) (A : List Hp) : List Hp := ptog f (order A)
def wAt (idx : Int32) : Int32 → List Hp → Int32
  | _, [] => nI 0
  | acc, x :: r => if idx < acc + h_w x then h_g x - h_l x else wAt idx (acc + h_w x) r
/-- the quotient of two longs, rounded down -/
def fdv (x y : Int64) : Int64 := if (x ^^^ y) < 0 ∧ x / y * y ≠ x then x / y - 1 else x / y
def btw (sum weight place nSum nW nPlace t : Int64) : Int32 :=
  if weight * nW * (nPlace - place) ≤ 0 then 0 else (fdv (sum * nW * (nPlace - place) + (nSum * weight - sum * nW) * (t - place)) (weight * nW * (nPlace - place))).toInt32
def qScan (gr tot t : Int32) : Int32 → Int32 → Int32 → Int32 → List Hp → Int32
  | _, place, sum, weight, [] => btw sum.toInt64 weight.toInt64 place.toInt64 gr.toInt64 1 (nI 1000 * tot).toInt64 t.toInt64
  | ahead, place, sum, weight, x :: r =>
    if t ≤ nI 1000 * ahead + nI 500 * h_w x then btw sum.toInt64 weight.toInt64 place.toInt64 (h_s x).toInt64 (h_w x).toInt64 (nI 1000 * ahead + nI 500 * h_w x).toInt64 t.toInt64
    else qScan gr tot t (ahead + h_w x) (nI 1000 * ahead + nI 500 * h_w x) (h_s x) (h_w x) r
def wTot (A : List Hp) : Int32 := isum (A.map h_w) A.length
def qAt (A : List Hp) (q : Int32) : Int32 := qScan (imax (A.map h_g) A.length) (wTot A) (q * wTot A) (nI 0) (nI 0) (imin (A.map h_l) A.length) (nI 1) A
def rkS (A : List Hp) (v : Int32) : Nat → Int32 → Int32
  | 0, q => q
  | j + 1, q => rkS A v j (if q + nI (2 ^ j) ≤ nI 1000 ∧ qAt A (q + nI (2 ^ j)) ≤ v then q + nI (2 ^ j) else q)
theorem HV.tot {σ : St} {h : Nat} {A : List Hp} (hv : HV σ h A) : isum (σ (h+1)) (σ (h+1)).length = wTot A := by rw [hv.1, wTot, List.length_map]
end
section
theorem swp_map {α β : Type} (f : α → β) (d : α) {l : List α} {i j : Nat} : swp (f d) (l.map f) i j = (swp d l i j).map f := by
  unfold swp
  rw [getD_map, getD_map, List.map_set, List.map_set]
theorem fb_rng0 (x : Int32) : -2147483648 ≤ x.toInt ∧ x.toInt < 2147483648 := ⟨Int32.le_toInt x, Int32.toInt_lt x⟩
theorem i64_mul (a b : Int32) : (a.toInt64 * b.toInt64).toInt = a.toInt * b.toInt := by
  rw [Int64.toInt_mul, Int32.toInt_toInt64, Int32.toInt_toInt64]
  have h1 := fb_rng0 a
  have h2 := fb_rng0 b
  have h3 : -(4611686018427387904) ≤ a.toInt * b.toInt ∧ a.toInt * b.toInt ≤ 4611686018427387904 := by
    have hx : a.toInt.natAbs ≤ 2147483648 := by omega
    have hy : b.toInt.natAbs ≤ 2147483648 := by omega
    have hm : (a.toInt * b.toInt).natAbs ≤ 2147483648 * 2147483648 := by rw [Int.natAbs_mul]; exact Nat.mul_le_mul hx hy
    omega
  exact Int.bmod_eq_of_le (by omega) (by omega)
theorem gtH_yes {a b : Hp} {x1 x2 : Int64} (e1 : x1 = (h_s a).toInt64 * (h_w b).toInt64) (e2 : x2 = (h_s b).toInt64 * (h_w a).toInt64) (h : x2 < x1) : gtH a b = true := by
  have := Int64.lt_iff_toInt_lt.mp h
  rw [e1, e2, i64_mul, i64_mul] at this
  exact decide_eq_true this
theorem gtH_no {a b : Hp} {x1 x2 : Int64} (e1 : x1 = (h_s a).toInt64 * (h_w b).toInt64) (e2 : x2 = (h_s b).toInt64 * (h_w a).toInt64) (h : x1 ≤ x2) (q : gtH a b = true) : False := by
  have h1 := Int64.le_iff_toInt_le.mp h
  rw [e1, e2, i64_mul, i64_mul] at h1
  have h2 := of_decide_eq_true q
  omega
abbrev rX1_size : Room := { frames := 1, cells := 0, slots := 0, locals := 20 }
theorem yd_X1_size : ydV yX1_size RX1 0 := ⟨rfl, by decide +kernel, by decide +kernel, by decide +kernel⟩
set_option maxHeartbeats 4000000 in
set_option maxRecDepth 100000 in
theorem c_X1_size (l : Launch) (L : Lay) (σ : St) {k : Nat} {A : List Hp} (hk : kd k = 1) (hv : HV σ k A) : Mf l L yX1_size (Cond.code yX1_size cX1_size 1 (some FieldType.int) :: qA) rX1_size [.ref (ad L k)] σ (some (.int (nI A.length))) σ := by
  refine Mf.ofW (by decide) (Nat.le_of_ble_eq_true rfl) ?_
  intro p e s m args below meth c ls post hp hI S hr hlk hK h hl
  have hx := S.1
  have hb := S.2.1
  have hok := h.ok
  have hl : lv_has ls 1 [(0, .ref (ad L k))] := hl
  refine lv_aload_n hx hb dX1_size_0 rfl (lv_at hl 0 rfl) ?_
  refine g_weights S hK h hk q_57 dX1_size_1 ?_
  refine q_V1 (ci := 4) S hI hK h [] (c_X4_length l L σ (kd1_1 hk)) (kd1_1 hk) rfl (by decide) q_281 q_228 q_229 q_3 q_230 yd_X4_length rfl ⟨⟨rfl, rfl⟩, ⟨(Nat.le_of_ble_eq_true rfl), (Nat.le_of_ble_eq_true rfl)⟩, Nat.le_refl _, Nat.le_refl _⟩ rfl (Nat.le_of_ble_eq_true rfl) hl.1 dX1_size_4 (fun H locs h => ?_)
  refine cv_i (show (nI ((σ (k + 1)).length) : Int32) = nI A.length from (by rw [hv.len.1])) ?_
  exact e_i S hK h hr hlk dX1_size_7 hp

abbrev rX1_empty : Room := { frames := 1, cells := 0, slots := 0, locals := 20 }
theorem yd_X1_empty : ydV yX1_empty RX1 0 := ⟨rfl, by decide +kernel, by decide +kernel, by decide +kernel⟩
set_option maxHeartbeats 4000000 in
set_option maxRecDepth 100000 in
theorem c_X1_empty (l : Launch) (L : Lay) (σ : St) {k : Nat} (hk : kd k = 1) : Mf l L yX1_empty (Cond.code yX1_empty cX1_empty 1 none :: qA) rX1_empty [.ref (ad L k)] σ none (hset σ k []) := by
  refine Mf.ofW (by decide) (Nat.le_of_ble_eq_true rfl) ?_
  intro p e s m args below meth c ls post hp hI S hr hlk hK h hl
  have hx := S.1
  have hb := S.2.1
  have hok := h.ok
  have hl : lv_has ls 1 [(0, .ref (ad L k))] := hl
  refine lv_aload_n hx hb dX1_empty_0 rfl (lv_at hl 0 rfl) ?_
  refine g_weights S hK h hk q_57 dX1_empty_1 ?_
  refine q_V0 (ci := 4) S hI hK h [] (c_X4_empty l L σ (kd1_1 hk)) (kd1_1 hk) rfl (by decide) q_380 q_285 q_286 q_3 q_287 yd_X4_empty rfl ⟨⟨rfl, rfl⟩, ⟨(Nat.le_of_ble_eq_true rfl), (Nat.le_of_ble_eq_true rfl)⟩, Nat.le_refl _, Nat.le_refl _⟩ rfl (Nat.le_of_ble_eq_true rfl) hl.1 dX1_empty_4 (fun H locs h => ?_)
  refine lv_aload_n hx hb dX1_empty_7 rfl (lv_at hl 0 rfl) ?_
  refine g_sums S hK h hk q_60 dX1_empty_8 ?_
  refine q_V0 (ci := 4) S hI hK h [] (c_X4_empty l L (up σ (k + 1) ([])) (kd1_3 hk)) (kd1_3 hk) rfl (by decide) q_380 q_285 q_286 q_3 q_287 yd_X4_empty rfl ⟨⟨rfl, rfl⟩, ⟨(Nat.le_of_ble_eq_true rfl), (Nat.le_of_ble_eq_true rfl)⟩, Nat.le_refl _, Nat.le_refl _⟩ rfl (Nat.le_of_ble_eq_true rfl) hl.1 dX1_empty_11 (fun H locs h => ?_)
  refine lv_aload_n hx hb dX1_empty_14 rfl (lv_at hl 0 rfl) ?_
  refine g_leasts S hK h hk q_63 dX1_empty_15 ?_
  refine q_V0 (ci := 4) S hI hK h [] (c_X4_empty l L (up (up σ (k + 1) ([])) (k + 3) ([])) (kd1_5 hk)) (kd1_5 hk) rfl (by decide) q_380 q_285 q_286 q_3 q_287 yd_X4_empty rfl ⟨⟨rfl, rfl⟩, ⟨(Nat.le_of_ble_eq_true rfl), (Nat.le_of_ble_eq_true rfl)⟩, Nat.le_refl _, Nat.le_refl _⟩ rfl (Nat.le_of_ble_eq_true rfl) hl.1 dX1_empty_18 (fun H locs h => ?_)
  refine lv_aload_n hx hb dX1_empty_21 rfl (lv_at hl 0 rfl) ?_
  refine g_greatests S hK h hk q_66 dX1_empty_22 ?_
  refine q_V0 (ci := 4) S hI hK h [] (c_X4_empty l L (up (up (up σ (k + 1) ([])) (k + 3) ([])) (k + 5) ([])) (kd1_7 hk)) (kd1_7 hk) rfl (by decide) q_380 q_285 q_286 q_3 q_287 yd_X4_empty rfl ⟨⟨rfl, rfl⟩, ⟨(Nat.le_of_ble_eq_true rfl), (Nat.le_of_ble_eq_true rfl)⟩, Nat.le_refl _, Nat.le_refl _⟩ rfl (Nat.le_of_ble_eq_true rfl) hl.1 dX1_empty_25 (fun H locs h => ?_)
  exact e_v S hK h hr hlk dX1_empty_28 (fin_p hp rfl (hset_of ⟨by simp [up], by simp [up], by simp [up], by simp [up]⟩ (fun j h1 h3 h5 h7 => by simp [up, h1, h3, h5, h7])))

abbrev rX1_copyFrom : Room := { frames := 2, cells := 0, slots := 0, locals := 81 }
theorem yd_X1_copyFrom : ydV yX1_copyFrom RX1 1 := ⟨rfl, by decide +kernel, by decide +kernel, by decide +kernel⟩
set_option maxHeartbeats 4000000 in
set_option maxRecDepth 100000 in
theorem c_X1_copyFrom (l : Launch) (L : Lay) (σ : St) {k k2 : Nat} {A2 : List Hp} (hk : kd k = 1) (hk2 : kd k2 = 1) (hkk : k2 ≠ k) (hv2 : HV σ k2 A2) : Mf l L yX1_copyFrom (Cond.code yX1_copyFrom cX1_copyFrom 2 none :: qA) rX1_copyFrom [.ref (ad L k), .ref (ad L k2)] σ none (hset σ k A2) := by
  refine Mf.ofW (by decide) (Nat.le_of_ble_eq_true rfl) ?_
  intro p e s m args below meth c ls post hp hI S hr hlk hK h hl
  have hx := S.1
  have hb := S.2.1
  have hok := h.ok
  have hl : lv_has ls 2 [(0, .ref (ad L k)), (1, .ref (ad L k2))] := hl
  have hap := kd11 hk hk2 (Ne.symm hkk)
  obtain ⟨hl1, hl3, hl5, hl7⟩ := hv2.len
  have hA := hv2.le hok hk2
  obtain ⟨e1, e3, e5, e7⟩ := hv2
  have hc := kd_1h k (kd_of hk) hk
  refine lv_aload_n hx hb dX1_copyFrom_0 rfl (lv_at hl 0 rfl) ?_
  refine g_weights S hK h hk q_57 dX1_copyFrom_1 ?_
  refine lv_aload_n hx hb dX1_copyFrom_4 rfl (lv_at hl 1 rfl) ?_
  refine g_weights S hK h hk2 q_57 dX1_copyFrom_5 ?_
  refine q_V0 (ci := 4) S hI hK h [.ref (ad L (k2 + 1))] (c_X4_copyFrom l L σ (kd1_1 hk) (kd1_1 hk2) (by omega) (by omega)) (kd1_1 hk) rfl (by decide) q_266 q_249 q_250 q_3 q_251 yd_X4_copyFrom rfl ⟨⟨rfl, rfl⟩, ⟨(Nat.le_of_ble_eq_true rfl), (Nat.le_of_ble_eq_true rfl)⟩, Nat.le_refl _, Nat.le_refl _⟩ rfl (Nat.le_of_ble_eq_true rfl) hl.1 dX1_copyFrom_8 (fun H locs h => ?_)
  refine lv_aload_n hx hb dX1_copyFrom_11 rfl (lv_at hl 0 rfl) ?_
  refine g_sums S hK h hk q_60 dX1_copyFrom_12 ?_
  refine lv_aload_n hx hb dX1_copyFrom_15 rfl (lv_at hl 1 rfl) ?_
  refine g_sums S hK h hk2 q_60 dX1_copyFrom_16 ?_
  refine q_V0 (ci := 4) S hI hK h [.ref (ad L (k2 + 3))] (c_X4_copyFrom l L (up σ (k + 1) (σ (k2 + 1))) (kd1_3 hk) (kd1_3 hk2) (by omega) (by rw [up_n (by omega)]; omega)) (kd1_3 hk) rfl (by decide) q_266 q_249 q_250 q_3 q_251 yd_X4_copyFrom rfl ⟨⟨rfl, rfl⟩, ⟨(Nat.le_of_ble_eq_true rfl), (Nat.le_of_ble_eq_true rfl)⟩, Nat.le_refl _, Nat.le_refl _⟩ rfl (Nat.le_of_ble_eq_true rfl) hl.1 dX1_copyFrom_19 (fun H locs h => ?_)
  refine lv_aload_n hx hb dX1_copyFrom_22 rfl (lv_at hl 0 rfl) ?_
  refine g_leasts S hK h hk q_63 dX1_copyFrom_23 ?_
  refine lv_aload_n hx hb dX1_copyFrom_26 rfl (lv_at hl 1 rfl) ?_
  refine g_leasts S hK h hk2 q_63 dX1_copyFrom_27 ?_
  refine q_V0 (ci := 4) S hI hK h [.ref (ad L (k2 + 5))] (c_X4_copyFrom l L (up (up σ (k + 1) (σ (k2 + 1))) (k + 3) ((up σ (k + 1) (σ (k2 + 1))) (k2 + 3))) (kd1_5 hk) (kd1_5 hk2) (by omega) (by rw [up_n (by omega), up_n (by omega)]; omega)) (kd1_5 hk) rfl (by decide) q_266 q_249 q_250 q_3 q_251 yd_X4_copyFrom rfl ⟨⟨rfl, rfl⟩, ⟨(Nat.le_of_ble_eq_true rfl), (Nat.le_of_ble_eq_true rfl)⟩, Nat.le_refl _, Nat.le_refl _⟩ rfl (Nat.le_of_ble_eq_true rfl) hl.1 dX1_copyFrom_30 (fun H locs h => ?_)
  refine lv_aload_n hx hb dX1_copyFrom_33 rfl (lv_at hl 0 rfl) ?_
  refine g_greatests S hK h hk q_66 dX1_copyFrom_34 ?_
  refine lv_aload_n hx hb dX1_copyFrom_37 rfl (lv_at hl 1 rfl) ?_
  refine g_greatests S hK h hk2 q_66 dX1_copyFrom_38 ?_
  refine q_V0 (ci := 4) S hI hK h [.ref (ad L (k2 + 7))] (c_X4_copyFrom l L (up (up (up σ (k + 1) (σ (k2 + 1))) (k + 3) ((up σ (k + 1) (σ (k2 + 1))) (k2 + 3))) (k + 5) ((up (up σ (k + 1) (σ (k2 + 1))) (k + 3) ((up σ (k + 1) (σ (k2 + 1))) (k2 + 3))) (k2 + 5))) (kd1_7 hk) (kd1_7 hk2) (by omega) (by rw [up_n (by omega), up_n (by omega), up_n (by omega)]; omega)) (kd1_7 hk) rfl (by decide) q_266 q_249 q_250 q_3 q_251 yd_X4_copyFrom rfl ⟨⟨rfl, rfl⟩, ⟨(Nat.le_of_ble_eq_true rfl), (Nat.le_of_ble_eq_true rfl)⟩, Nat.le_refl _, Nat.le_refl _⟩ rfl (Nat.le_of_ble_eq_true rfl) hl.1 dX1_copyFrom_41 (fun H locs h => ?_)
  exact e_v S hK h hr hlk dX1_copyFrom_44 (fin_p hp rfl (hset_of ⟨by simp [up, e1], by rw [up_n (by omega), up_n (by omega), up_s, up_n (by omega), e3], by rw [up_n (by omega), up_s, up_n (by omega), up_n (by omega), e5], by rw [up_s, up_n (by omega), up_n (by omega), up_n (by omega), e7]⟩ (fun j h1 h3 h5 h7 => by simp [up, h1, h3, h5, h7])))

abbrev rX1_appendAll : Room := { frames := 2, cells := 0, slots := 0, locals := 43 }
theorem yd_X1_appendAll : ydV yX1_appendAll RX1 1 := ⟨rfl, by decide +kernel, by decide +kernel, by decide +kernel⟩
set_option maxHeartbeats 4000000 in
set_option maxRecDepth 100000 in
theorem c_X1_appendAll (l : Launch) (L : Lay) (σ : St) {k k2 : Nat} {A A2 : List Hp} (hk : kd k = 1) (hk2 : kd k2 = 1) (hkk : k2 ≠ k) (hv : HV σ k A) (hv2 : HV σ k2 A2) (hlen : A.length + A2.length ≤ 200) : Mf l L yX1_appendAll (Cond.code yX1_appendAll cX1_appendAll 2 none :: qA) rX1_appendAll [.ref (ad L k), .ref (ad L k2)] σ none (hset σ k (A ++ A2)) := by
  refine Mf.ofW (by decide) (Nat.le_of_ble_eq_true rfl) ?_
  intro p e s m args below meth c ls post hp hI S hr hlk hK h hl
  have hx := S.1
  have hb := S.2.1
  have hok := h.ok
  have hl : lv_has ls 2 [(0, .ref (ad L k)), (1, .ref (ad L k2))] := hl
  have hap := kd11 hk hk2 (Ne.symm hkk)
  obtain ⟨hl1, hl3, hl5, hl7⟩ := hv.len
  obtain ⟨gl1, gl3, gl5, gl7⟩ := hv2.len
  obtain ⟨e1, e3, e5, e7⟩ := hv
  obtain ⟨f1, f3, f5, f7⟩ := hv2
  have hc := kd_1h k (kd_of hk) hk
  refine lv_aload_n hx hb dX1_appendAll_0 rfl (lv_at hl 0 rfl) ?_
  refine g_weights S hK h hk q_57 dX1_appendAll_1 ?_
  refine lv_aload_n hx hb dX1_appendAll_4 rfl (lv_at hl 1 rfl) ?_
  refine g_weights S hK h hk2 q_57 dX1_appendAll_5 ?_
  refine q_V0 (ci := 4) S hI hK h [.ref (ad L (k2 + 1))] (c_X4_appendAll l L σ (kd1_1 hk) (kd1_1 hk2) (by omega) (by omega)) (kd1_1 hk) rfl (by decide) q_364 q_365 q_366 q_3 q_367 yd_X4_appendAll rfl ⟨⟨rfl, rfl⟩, ⟨(Nat.le_of_ble_eq_true rfl), (Nat.le_of_ble_eq_true rfl)⟩, Nat.le_refl _, Nat.le_refl _⟩ rfl (Nat.le_of_ble_eq_true rfl) hl.1 dX1_appendAll_8 (fun H locs h => ?_)
  refine lv_aload_n hx hb dX1_appendAll_11 rfl (lv_at hl 0 rfl) ?_
  refine g_sums S hK h hk q_60 dX1_appendAll_12 ?_
  refine lv_aload_n hx hb dX1_appendAll_15 rfl (lv_at hl 1 rfl) ?_
  refine g_sums S hK h hk2 q_60 dX1_appendAll_16 ?_
  refine q_V0 (ci := 4) S hI hK h [.ref (ad L (k2 + 3))] (c_X4_appendAll l L (up σ (k + 1) ((σ (k + 1)) ++ (σ (k2 + 1)))) (kd1_3 hk) (kd1_3 hk2) (by omega) (by rw [up_n (by omega), up_n (by omega)]; omega)) (kd1_3 hk) rfl (by decide) q_364 q_365 q_366 q_3 q_367 yd_X4_appendAll rfl ⟨⟨rfl, rfl⟩, ⟨(Nat.le_of_ble_eq_true rfl), (Nat.le_of_ble_eq_true rfl)⟩, Nat.le_refl _, Nat.le_refl _⟩ rfl (Nat.le_of_ble_eq_true rfl) hl.1 dX1_appendAll_19 (fun H locs h => ?_)
  refine lv_aload_n hx hb dX1_appendAll_22 rfl (lv_at hl 0 rfl) ?_
  refine g_leasts S hK h hk q_63 dX1_appendAll_23 ?_
  refine lv_aload_n hx hb dX1_appendAll_26 rfl (lv_at hl 1 rfl) ?_
  refine g_leasts S hK h hk2 q_63 dX1_appendAll_27 ?_
  refine q_V0 (ci := 4) S hI hK h [.ref (ad L (k2 + 5))] (c_X4_appendAll l L (up (up σ (k + 1) ((σ (k + 1)) ++ (σ (k2 + 1)))) (k + 3) (((up σ (k + 1) ((σ (k + 1)) ++ (σ (k2 + 1)))) (k + 3)) ++ ((up σ (k + 1) ((σ (k + 1)) ++ (σ (k2 + 1)))) (k2 + 3)))) (kd1_5 hk) (kd1_5 hk2) (by omega) (by rw [up_n (by omega), up_n (by omega), up_n (by omega), up_n (by omega)]; omega)) (kd1_5 hk) rfl (by decide) q_364 q_365 q_366 q_3 q_367 yd_X4_appendAll rfl ⟨⟨rfl, rfl⟩, ⟨(Nat.le_of_ble_eq_true rfl), (Nat.le_of_ble_eq_true rfl)⟩, Nat.le_refl _, Nat.le_refl _⟩ rfl (Nat.le_of_ble_eq_true rfl) hl.1 dX1_appendAll_30 (fun H locs h => ?_)
  refine lv_aload_n hx hb dX1_appendAll_33 rfl (lv_at hl 0 rfl) ?_
  refine g_greatests S hK h hk q_66 dX1_appendAll_34 ?_
  refine lv_aload_n hx hb dX1_appendAll_37 rfl (lv_at hl 1 rfl) ?_
  refine g_greatests S hK h hk2 q_66 dX1_appendAll_38 ?_
  refine q_V0 (ci := 4) S hI hK h [.ref (ad L (k2 + 7))] (c_X4_appendAll l L (up (up (up σ (k + 1) ((σ (k + 1)) ++ (σ (k2 + 1)))) (k + 3) (((up σ (k + 1) ((σ (k + 1)) ++ (σ (k2 + 1)))) (k + 3)) ++ ((up σ (k + 1) ((σ (k + 1)) ++ (σ (k2 + 1)))) (k2 + 3)))) (k + 5) (((up (up σ (k + 1) ((σ (k + 1)) ++ (σ (k2 + 1)))) (k + 3) (((up σ (k + 1) ((σ (k + 1)) ++ (σ (k2 + 1)))) (k + 3)) ++ ((up σ (k + 1) ((σ (k + 1)) ++ (σ (k2 + 1)))) (k2 + 3)))) (k + 5)) ++ ((up (up σ (k + 1) ((σ (k + 1)) ++ (σ (k2 + 1)))) (k + 3) (((up σ (k + 1) ((σ (k + 1)) ++ (σ (k2 + 1)))) (k + 3)) ++ ((up σ (k + 1) ((σ (k + 1)) ++ (σ (k2 + 1)))) (k2 + 3)))) (k2 + 5)))) (kd1_7 hk) (kd1_7 hk2) (by omega) (by rw [up_n (by omega), up_n (by omega), up_n (by omega), up_n (by omega), up_n (by omega), up_n (by omega)]; omega)) (kd1_7 hk) rfl (by decide) q_364 q_365 q_366 q_3 q_367 yd_X4_appendAll rfl ⟨⟨rfl, rfl⟩, ⟨(Nat.le_of_ble_eq_true rfl), (Nat.le_of_ble_eq_true rfl)⟩, Nat.le_refl _, Nat.le_refl _⟩ rfl (Nat.le_of_ble_eq_true rfl) hl.1 dX1_appendAll_41 (fun H locs h => ?_)
  exact e_v S hK h hr hlk dX1_appendAll_44 (fin_p hp rfl (hset_of ⟨by rw [up_n (by omega), up_n (by omega), up_n (by omega), up_s, e1, f1, List.map_append], by rw [up_n (by omega), up_n (by omega), up_s, up_n (by omega), up_n (by omega), e3, f3, List.map_append], by rw [up_n (by omega), up_s, up_n (by omega), up_n (by omega), up_n (by omega), up_n (by omega), e5, f5, List.map_append], by rw [up_s, up_n (by omega), up_n (by omega), up_n (by omega), up_n (by omega), up_n (by omega), up_n (by omega), e7, f7, List.map_append]⟩ (fun j h1 h3 h5 h7 => by simp [up, h1, h3, h5, h7])))

abbrev rX1_appendEach : Room := { frames := 1, cells := 0, slots := 0, locals := 21 }
theorem yd_X1_appendEach : ydV yX1_appendEach RX1 1 := ⟨rfl, by decide +kernel, by decide +kernel, by decide +kernel⟩
set_option maxHeartbeats 4000000 in
set_option maxRecDepth 100000 in
theorem c_X1_appendEach (l : Launch) (L : Lay) (σ : St) {k k2 : Nat} {A : List Hp} (hk : kd k = 1) (hk2 : kd k2 = 4) (n1 : k2 ≠ k + 1) (n3 : k2 ≠ k + 3) (n5 : k2 ≠ k + 5) (n7 : k2 ≠ k + 7) (hv : HV σ k A) (hlen : A.length + (σ k2).length ≤ 200) : Mf l L yX1_appendEach (Cond.code yX1_appendEach cX1_appendEach 4 none :: qA) rX1_appendEach [.ref (ad L k), .ref (ad L k2)] σ none (hset σ k (A ++ (σ k2).map hunit)) := by
  refine Mf.ofW (by decide) (Nat.le_of_ble_eq_true rfl) ?_
  intro p e s m args below meth c ls post hp hI S hr hlk hK h hl
  have hx := S.1
  have hb := S.2.1
  have hok := h.ok
  have hl : lv_has ls 4 [(0, .ref (ad L k)), (1, .ref (ad L k2))] := hl
  have hc := kd_1h k (kd_of hk) hk
  have hA := hv.le hok hk
  have hB := hok.len hk2
  refine lv_iconst (v := (nI 0)) hx hb dX1_appendEach_0 (by decide) ?_
  refine lv_istore_n (lv' := [(2, .int (nI 0)), (0, .ref (ad L k)), (1, .ref (ad L k2))]) hx hb dX1_appendEach_1 rfl hl (by decide) rfl (fun ls hl => ?_)
  have LP_2 : ∀ (n_2 : Nat) (i : Nat) (σ1 : St), (i ≤ (σ k2).length) → (σ1 = hset σ k (A ++ ((σ k2).take i).map hunit)) → (σ k2).length - i < n_2 → ∀ (H : Heap) (locs : List Loc) (ls : Array Slot), Hd L s.heap H σ1 locs → lv_has ls 4 [(2, .int (nI i)), (0, .ref (ad L k)), (1, .ref (ad L k2))] → W p l e rX1_appendEach s m args below meth c H locs 0 0 (MQ below (Qg post (bs L) (Aw L)) args s 0 0 (Aw L)) (F0 m 2 ls []) := by
    intro n_2
    induction n_2 with
    | zero => intro i σ1; intros; omega
    | succ n_2 ih_2 =>
      intro i σ1 hi hσ hm_2 H locs ls h hl
      have hok := h.ok
      have hv1 : HV σ1 k (A ++ ((σ k2).take i).map hunit) := by rw [hσ]; exact HV.hset
      have e2 : σ1 k2 = σ k2 := by rw [hσ, hset_n n1 n3 n5 n7]
      obtain ⟨hl1, hl3, hl5, hl7⟩ := hv1.len
      have hll : (A ++ ((σ k2).take i).map hunit).length = A.length + i := by rw [List.length_append, List.length_map, List.length_take]; omega
      obtain ⟨e1, e3, e5, e7⟩ := hv1
      refine lv_iload_n hx hb dX1_appendEach_2 rfl (lv_at hl 0 rfl) ?_
      refine lv_aload_n hx hb dX1_appendEach_3 rfl (lv_at hl 2 rfl) ?_
      refine q_V1 (ci := 4) S hI hK h [] (c_X4_length l L σ1 hk2) hk2 rfl (by decide) q_281 q_228 q_229 q_3 q_230 yd_X4_length rfl ⟨⟨rfl, rfl⟩, ⟨(Nat.le_of_ble_eq_true rfl), (Nat.le_of_ble_eq_true rfl)⟩, Nat.le_refl _, Nat.le_refl _⟩ rfl (Nat.le_of_ble_eq_true rfl) hl.1 dX1_appendEach_4 (fun H locs h => ?_)
      refine cv_i (show (nI ((σ1 k2).length) : Int32) = nI ((σ k2).length) from (by rw [e2])) ?_
      refine b_icmp_ge (tgt := 54) hx hb dX1_appendEach_7 (by decide) (by omega) (by omega) (fun c_7 => ?_) (fun c_7 => ?_)
      · have e4 : i = (σ k2).length := by omega
        exact e_v S hK h hr hlk dX1_appendEach_54 (fin_p hp rfl (by rw [hσ, e4, List.take_of_length_le (Nat.le_refl _)]))
      · refine lv_aload_n hx hb dX1_appendEach_10 rfl (lv_at hl 2 rfl) ?_
        refine lv_iload_n hx hb dX1_appendEach_11 rfl (lv_at hl 0 rfl) ?_
        refine q_V1 (ci := 4) S hI hK h [.int (nI i)] (c_X4_at l L σ1 hk2 (by omega)) hk2 rfl (by decide) q_282 q_224 q_225 q_3 q_226 yd_X4_at rfl ⟨⟨rfl, rfl⟩, ⟨(Nat.le_of_ble_eq_true rfl), (Nat.le_of_ble_eq_true rfl)⟩, Nat.le_refl _, Nat.le_refl _⟩ rfl (Nat.le_of_ble_eq_true rfl) hl.1 dX1_appendEach_12 (fun H locs h => ?_)
        refine cv_i (show ((σ1 k2).getD i 0 : Int32) = (σ k2).getD i 0 from (by rw [e2])) ?_
        refine lv_istore_n (lv' := [(3, .int ((σ k2).getD i 0)), (2, .int (nI i)), (0, .ref (ad L k)), (1, .ref (ad L k2))]) hx hb dX1_appendEach_15 rfl hl (by decide) rfl (fun ls hl => ?_)
        refine lv_aload_n hx hb dX1_appendEach_16 rfl (lv_at hl 2 rfl) ?_
        refine g_weights S hK h hk q_57 dX1_appendEach_17 ?_
        refine lv_iconst (v := (nI 1)) hx hb dX1_appendEach_20 (by decide) ?_
        refine q_V0 (ci := 4) S hI hK h [.int (nI 1)] (c_X4_append l L σ1 (kd1_1 hk) (by omega) (nI 1)) (kd1_1 hk) rfl (by decide) q_283 q_99 q_100 q_3 q_101 yd_X4_append rfl ⟨⟨rfl, rfl⟩, ⟨(Nat.le_of_ble_eq_true rfl), (Nat.le_of_ble_eq_true rfl)⟩, Nat.le_refl _, Nat.le_refl _⟩ rfl (Nat.le_of_ble_eq_true rfl) hl.1 dX1_appendEach_21 (fun H locs h => ?_)
        refine lv_aload_n hx hb dX1_appendEach_24 rfl (lv_at hl 2 rfl) ?_
        refine g_sums S hK h hk q_60 dX1_appendEach_25 ?_
        refine lv_iload_n hx hb dX1_appendEach_28 rfl (lv_at hl 0 rfl) ?_
        refine q_V0 (ci := 4) S hI hK h [.int ((σ k2).getD i 0)] (c_X4_append l L (up σ1 (k + 1) ((σ1 (k + 1)) ++ [nI 1])) (kd1_3 hk) (by rw [up_n (by omega)]; omega) ((σ k2).getD i 0)) (kd1_3 hk) rfl (by decide) q_283 q_99 q_100 q_3 q_101 yd_X4_append rfl ⟨⟨rfl, rfl⟩, ⟨(Nat.le_of_ble_eq_true rfl), (Nat.le_of_ble_eq_true rfl)⟩, Nat.le_refl _, Nat.le_refl _⟩ rfl (Nat.le_of_ble_eq_true rfl) hl.1 dX1_appendEach_29 (fun H locs h => ?_)
        refine lv_aload_n hx hb dX1_appendEach_32 rfl (lv_at hl 2 rfl) ?_
        refine g_leasts S hK h hk q_63 dX1_appendEach_33 ?_
        refine lv_iload_n hx hb dX1_appendEach_36 rfl (lv_at hl 0 rfl) ?_
        refine q_V0 (ci := 4) S hI hK h [.int ((σ k2).getD i 0)] (c_X4_append l L (up (up σ1 (k + 1) ((σ1 (k + 1)) ++ [nI 1])) (k + 3) (((up σ1 (k + 1) ((σ1 (k + 1)) ++ [nI 1])) (k + 3)) ++ [(σ k2).getD i 0])) (kd1_5 hk) (by rw [up_n (by omega), up_n (by omega)]; omega) ((σ k2).getD i 0)) (kd1_5 hk) rfl (by decide) q_283 q_99 q_100 q_3 q_101 yd_X4_append rfl ⟨⟨rfl, rfl⟩, ⟨(Nat.le_of_ble_eq_true rfl), (Nat.le_of_ble_eq_true rfl)⟩, Nat.le_refl _, Nat.le_refl _⟩ rfl (Nat.le_of_ble_eq_true rfl) hl.1 dX1_appendEach_37 (fun H locs h => ?_)
        refine lv_aload_n hx hb dX1_appendEach_40 rfl (lv_at hl 2 rfl) ?_
        refine g_greatests S hK h hk q_66 dX1_appendEach_41 ?_
        refine lv_iload_n hx hb dX1_appendEach_44 rfl (lv_at hl 0 rfl) ?_
        refine q_V0 (ci := 4) S hI hK h [.int ((σ k2).getD i 0)] (c_X4_append l L (up (up (up σ1 (k + 1) ((σ1 (k + 1)) ++ [nI 1])) (k + 3) (((up σ1 (k + 1) ((σ1 (k + 1)) ++ [nI 1])) (k + 3)) ++ [(σ k2).getD i 0])) (k + 5) (((up (up σ1 (k + 1) ((σ1 (k + 1)) ++ [nI 1])) (k + 3) (((up σ1 (k + 1) ((σ1 (k + 1)) ++ [nI 1])) (k + 3)) ++ [(σ k2).getD i 0])) (k + 5)) ++ [(σ k2).getD i 0])) (kd1_7 hk) (by rw [up_n (by omega), up_n (by omega), up_n (by omega)]; omega) ((σ k2).getD i 0)) (kd1_7 hk) rfl (by decide) q_283 q_99 q_100 q_3 q_101 yd_X4_append rfl ⟨⟨rfl, rfl⟩, ⟨(Nat.le_of_ble_eq_true rfl), (Nat.le_of_ble_eq_true rfl)⟩, Nat.le_refl _, Nat.le_refl _⟩ rfl (Nat.le_of_ble_eq_true rfl) hl.1 dX1_appendEach_45 (fun H locs h => ?_)
        have h := h.to (show up (up (up (up σ1 (k + 1) ((σ1 (k + 1)) ++ [nI 1])) (k + 3) (((up σ1 (k + 1) ((σ1 (k + 1)) ++ [nI 1])) (k + 3)) ++ [(σ k2).getD i 0])) (k + 5) (((up (up σ1 (k + 1) ((σ1 (k + 1)) ++ [nI 1])) (k + 3) (((up σ1 (k + 1) ((σ1 (k + 1)) ++ [nI 1])) (k + 3)) ++ [(σ k2).getD i 0])) (k + 5)) ++ [(σ k2).getD i 0])) (k + 7) (((up (up (up σ1 (k + 1) ((σ1 (k + 1)) ++ [nI 1])) (k + 3) (((up σ1 (k + 1) ((σ1 (k + 1)) ++ [nI 1])) (k + 3)) ++ [(σ k2).getD i 0])) (k + 5) (((up (up σ1 (k + 1) ((σ1 (k + 1)) ++ [nI 1])) (k + 3) (((up σ1 (k + 1) ((σ1 (k + 1)) ++ [nI 1])) (k + 3)) ++ [(σ k2).getD i 0])) (k + 5)) ++ [(σ k2).getD i 0])) (k + 7)) ++ [(σ k2).getD i 0]) = hset σ k (A ++ ((σ k2).take (i + 1)).map hunit) from (by rw [← take_snoc (d := 0) c_7, List.map_append, ← List.append_assoc]; refine (hset_of ⟨?_, ?_, ?_, ?_⟩ (fun j h1 h3 h5 h7 => ?_)); (rw [up_n (by omega), up_n (by omega), up_n (by omega), up_s, List.map_append, ← e1]; rfl); (rw [up_n (by omega), up_n (by omega), up_s, up_n (by omega), List.map_append, ← e3]; rfl); (rw [up_n (by omega), up_s, up_n (by omega), up_n (by omega), List.map_append, ← e5]; rfl); (rw [up_s, up_n (by omega), up_n (by omega), up_n (by omega), List.map_append, ← e7]; rfl); (rw [up_n h7, up_n h5, up_n h3, up_n h1, hσ, hset_n h1 h3 h5 h7])))
        refine lv_iinc (v := (nI (i + 1))) (lv' := [(2, .int (nI (i + 1))), (3, .int ((σ k2).getD i 0)), (0, .ref (ad L k)), (1, .ref (ad L k2))]) hx hb dX1_appendEach_48 hl (k := 1) rfl (iinc_1 _) (by decide) rfl (fun ls hl => ?_)
        refine lv_goto (tgt := 2) hx hb dX1_appendEach_51 (by decide) ?_
        exact ih_2 (i + 1) (hset σ k (A ++ ((σ k2).take (i + 1)).map hunit)) (by omega) rfl (by omega) _ _ _ h (lv_sub hl [0, 2, 3] rfl)
  exact LP_2 _ 0 σ (by omega) (by rw [List.take_zero, List.map_nil, List.append_nil, hset_id hv]) (Nat.lt_succ_self _) _ _ _ h (lv_sub hl [0, 1, 2] rfl)

abbrev rX1_wholeMiddle : Room := { frames := 1, cells := 0, slots := 0, locals := 21 }
theorem yd_X1_wholeMiddle : ydV yX1_wholeMiddle RX1 1 := ⟨rfl, by decide +kernel, by decide +kernel, by decide +kernel⟩
set_option maxHeartbeats 4000000 in
set_option maxRecDepth 100000 in
theorem c_X1_wholeMiddle (l : Launch) (L : Lay) (σ : St) {k : Nat} {A : List Hp} (hk : kd k = 1) (hv : HV σ k A) {j : Nat} (hj : j < 2 ^ 31) : Mf l L yX1_wholeMiddle (Cond.code yX1_wholeMiddle cX1_wholeMiddle 3 (some FieldType.int) :: qA) rX1_wholeMiddle [.ref (ad L k), .int (nI j)] σ (some (.int (if 0 < h_w (A.getD j hd0) then h_s (A.getD j hd0) / h_w (A.getD j hd0) else 0))) σ := by
  refine Mf.ofW (by decide) (Nat.le_of_ble_eq_true rfl) ?_
  intro p e s m args below meth c ls post hp hI S hr hlk hK h hl
  have hx := S.1
  have hb := S.2.1
  have hok := h.ok
  have hl : lv_has ls 3 [(0, .ref (ad L k)), (1, .int (nI j))] := hl
  refine lv_aload_n hx hb dX1_wholeMiddle_0 rfl (lv_at hl 0 rfl) ?_
  refine g_weights S hK h hk q_57 dX1_wholeMiddle_1 ?_
  refine lv_iload_n hx hb dX1_wholeMiddle_4 rfl (lv_at hl 1 rfl) ?_
  refine q_V1 (ci := 4) S hI hK h [.int (nI j)] (c_X4_at l L σ (kd1_1 hk) (by omega)) (kd1_1 hk) rfl (by decide) q_282 q_224 q_225 q_3 q_226 yd_X4_at rfl ⟨⟨rfl, rfl⟩, ⟨(Nat.le_of_ble_eq_true rfl), (Nat.le_of_ble_eq_true rfl)⟩, Nat.le_refl _, Nat.le_refl _⟩ rfl (Nat.le_of_ble_eq_true rfl) hl.1 dX1_wholeMiddle_5 (fun H locs h => ?_)
  refine cv_i (show ((σ (k + 1)).getD j 0 : Int32) = h_w (A.getD j hd0) from (hv.w _)) ?_
  refine lv_istore_n (lv' := [(2, .int (h_w (A.getD j hd0))), (0, .ref (ad L k)), (1, .int (nI j))]) hx hb dX1_wholeMiddle_8 rfl hl (by decide) rfl (fun ls hl => ?_)
  refine lv_iload_n hx hb dX1_wholeMiddle_9 rfl (lv_at hl 0 rfl) ?_
  refine lv_if_le (tgt := 26) hx hb dX1_wholeMiddle_10 (by decide) (fun c_10 => ?_) (fun c_10 => ?_)
  · refine lv_iconst (v := (nI 0)) hx hb dX1_wholeMiddle_26 (by decide) ?_
    exact e_i S hK h hr hlk dX1_wholeMiddle_27 (by first | (rw [if_pos (Int32.not_le.mp c_10)] at hp; exact hp) | (rw [if_neg (Int32.not_lt.mpr c_10)] at hp; exact hp))
  · refine lv_aload_n hx hb dX1_wholeMiddle_13 rfl (lv_at hl 1 rfl) ?_
    refine g_sums S hK h hk q_60 dX1_wholeMiddle_14 ?_
    refine lv_iload_n hx hb dX1_wholeMiddle_17 rfl (lv_at hl 2 rfl) ?_
    refine q_V1 (ci := 4) S hI hK h [.int (nI j)] (c_X4_at l L σ (kd1_3 hk) (by omega)) (kd1_3 hk) rfl (by decide) q_282 q_224 q_225 q_3 q_226 yd_X4_at rfl ⟨⟨rfl, rfl⟩, ⟨(Nat.le_of_ble_eq_true rfl), (Nat.le_of_ble_eq_true rfl)⟩, Nat.le_refl _, Nat.le_refl _⟩ rfl (Nat.le_of_ble_eq_true rfl) hl.1 dX1_wholeMiddle_18 (fun H locs h => ?_)
    refine cv_i (show ((σ (k + 3)).getD j 0 : Int32) = h_s (A.getD j hd0) from (hv.s _)) ?_
    refine lv_iload_n hx hb dX1_wholeMiddle_21 rfl (lv_at hl 0 rfl) ?_
    refine lv_idiv hx hb dX1_wholeMiddle_22 (fun q => c_10 (by rw [q]; decide)) ?_
    refine lv_goto (tgt := 27) hx hb dX1_wholeMiddle_23 (by decide) ?_
    exact e_i S hK h hr hlk dX1_wholeMiddle_27 (by first | (rw [if_pos (Int32.not_le.mp c_10)] at hp; exact hp) | (rw [if_neg (Int32.not_lt.mpr c_10)] at hp; exact hp))

abbrev rX1_weightAheadOf : Room := { frames := 2, cells := 0, slots := 0, locals := 40 }
theorem yd_X1_weightAheadOf : ydV yX1_weightAheadOf RX1 1 := ⟨rfl, by decide +kernel, by decide +kernel, by decide +kernel⟩
set_option maxHeartbeats 4000000 in
set_option maxRecDepth 100000 in
theorem c_X1_weightAheadOf (l : Launch) (L : Lay) (σ : St) {k : Nat} {A : List Hp} (hk : kd k = 1) (hv : HV σ k A) {j : Nat} (hj : j ≤ A.length) : Mf l L yX1_weightAheadOf (Cond.code yX1_weightAheadOf cX1_weightAheadOf 4 (some FieldType.int) :: qA) rX1_weightAheadOf [.ref (ad L k), .int (nI j)] σ (some (.int (isum (A.map h_w) j))) σ := by
  refine Mf.ofW (by decide) (Nat.le_of_ble_eq_true rfl) ?_
  intro p e s m args below meth c ls post hp hI S hr hlk hK h hl
  have hx := S.1
  have hb := S.2.1
  have hok := h.ok
  have hl : lv_has ls 4 [(0, .ref (ad L k)), (1, .int (nI j))] := hl
  have hA := hv.le hok hk
  refine lv_iconst (v := (nI 0)) hx hb dX1_weightAheadOf_0 (by decide) ?_
  refine lv_istore_n (lv' := [(2, .int (nI 0)), (0, .ref (ad L k)), (1, .int (nI j))]) hx hb dX1_weightAheadOf_1 rfl hl (by decide) rfl (fun ls hl => ?_)
  refine lv_iconst (v := (nI 0)) hx hb dX1_weightAheadOf_2 (by decide) ?_
  refine lv_istore_n (lv' := [(3, .int (nI 0)), (2, .int (nI 0)), (0, .ref (ad L k)), (1, .int (nI j))]) hx hb dX1_weightAheadOf_3 rfl hl (by decide) rfl (fun ls hl => ?_)
  have LP_4 : ∀ (n_4 : Nat) (i : Nat) (acc : Int32), (i ≤ j) → (acc = isum (A.map h_w) i) → j - i < n_4 → ∀ (H : Heap) (locs : List Loc) (ls : Array Slot), Hd L s.heap H σ locs → lv_has ls 4 [(3, .int (nI i)), (2, .int acc), (0, .ref (ad L k)), (1, .int (nI j))] → W p l e rX1_weightAheadOf s m args below meth c H locs 0 0 (MQ below (Qg post (bs L) (Aw L)) args s 0 0 (Aw L)) (F0 m 4 ls []) := by
    intro n_4
    induction n_4 with
    | zero => intro i acc; intros; omega
    | succ n_4 ih_4 =>
      intro i acc hi ha hm_4 H locs ls h hl
      have hok := h.ok
      refine lv_iload_n hx hb dX1_weightAheadOf_4 rfl (lv_at hl 0 rfl) ?_
      refine lv_iload_n hx hb dX1_weightAheadOf_5 rfl (lv_at hl 3 rfl) ?_
      refine b_icmp_ge (tgt := 34) hx hb dX1_weightAheadOf_6 (by decide) (by omega) (by omega) (fun c_6 => ?_) (fun c_6 => ?_)
      · have e4 : i = j := by omega
        refine lv_iload_n hx hb dX1_weightAheadOf_34 rfl (lv_at hl 1 rfl) ?_
        exact e_i S hK h hr hlk dX1_weightAheadOf_35 (fin_p hp (by rw [ha, e4]) rfl)
      · refine lv_iload_n hx hb dX1_weightAheadOf_9 rfl (lv_at hl 0 rfl) ?_
        refine lv_aload_n hx hb dX1_weightAheadOf_10 rfl (lv_at hl 2 rfl) ?_
        refine q_V1 (ci := 1) S hI hK h [] (c_X1_size l L σ hk hv) hk rfl (by decide) q_296 q_297 q_298 q_6 q_299 yd_X1_size rfl ⟨⟨rfl, rfl⟩, ⟨(Nat.le_of_ble_eq_true rfl), (Nat.le_of_ble_eq_true rfl)⟩, Nat.le_refl _, Nat.le_refl _⟩ rfl (Nat.le_of_ble_eq_true rfl) hl.1 dX1_weightAheadOf_11 (fun H locs h => ?_)
        refine b_icmp_ge (tgt := 34) hx hb dX1_weightAheadOf_14 (by decide) (by omega) (by omega) (fun c_14 => absurd c_14 (by omega)) (fun c_14 => ?_)
        refine lv_iload_n hx hb dX1_weightAheadOf_17 rfl (lv_at hl 1 rfl) ?_
        refine lv_aload_n hx hb dX1_weightAheadOf_18 rfl (lv_at hl 2 rfl) ?_
        refine g_weights S hK h hk q_57 dX1_weightAheadOf_19 ?_
        refine lv_iload_n hx hb dX1_weightAheadOf_22 rfl (lv_at hl 0 rfl) ?_
        refine q_V1 (ci := 4) S hI hK h [.int (nI i)] (c_X4_at l L σ (kd1_1 hk) (by omega)) (kd1_1 hk) rfl (by decide) q_282 q_224 q_225 q_3 q_226 yd_X4_at rfl ⟨⟨rfl, rfl⟩, ⟨(Nat.le_of_ble_eq_true rfl), (Nat.le_of_ble_eq_true rfl)⟩, Nat.le_refl _, Nat.le_refl _⟩ rfl (Nat.le_of_ble_eq_true rfl) hl.1 dX1_weightAheadOf_23 (fun H locs h => ?_)
        refine lv_iadd hx hb dX1_weightAheadOf_26 ?_
        refine lv_istore_n (lv' := [(2, .int (acc + ((σ (k + 1)).getD i 0))), (3, .int (nI i)), (0, .ref (ad L k)), (1, .int (nI j))]) hx hb dX1_weightAheadOf_27 rfl hl (by decide) rfl (fun ls hl => ?_)
        refine lv_iinc (v := (nI (i + 1))) (lv' := [(3, .int (nI (i + 1))), (2, .int (acc + ((σ (k + 1)).getD i 0))), (0, .ref (ad L k)), (1, .int (nI j))]) hx hb dX1_weightAheadOf_28 hl (k := 1) rfl (iinc_1 _) (by decide) rfl (fun ls hl => ?_)
        refine lv_goto (tgt := 4) hx hb dX1_weightAheadOf_31 (by decide) ?_
        exact ih_4 (i + 1) (acc + ((σ (k + 1)).getD i 0)) (by omega) (by rw [ha, hv.1]; rfl) (by omega) _ _ _ h (lv_sub hl [0, 1, 2, 3] rfl)
  exact LP_4 _ 0 (nI 0) (by omega) rfl (Nat.lt_succ_self _) _ _ _ h (lv_sub hl [0, 1, 2, 3] rfl)

abbrev rX1_isMiddleAbove : Room := { frames := 1, cells := 0, slots := 0, locals := 21 }
theorem yd_X1_isMiddleAbove : ydV yX1_isMiddleAbove RX1 2 := ⟨rfl, by decide +kernel, by decide +kernel, by decide +kernel⟩
set_option maxHeartbeats 4000000 in
set_option maxRecDepth 100000 in
theorem c_X1_isMiddleAbove (l : Launch) (L : Lay) (σ : St) {k : Nat} {A : List Hp} (hk : kd k = 1) (hv : HV σ k A) {i j : Nat} (hi : i < 2 ^ 31) (hj : j < 2 ^ 31) : Mf l L yX1_isMiddleAbove (Cond.code yX1_isMiddleAbove cX1_isMiddleAbove 7 (some FieldType.boolean) :: qA) rX1_isMiddleAbove [.ref (ad L k), .int (nI i), .int (nI j)] σ (some (.int (if gtH (A.getD i hd0) (A.getD j hd0) = true then 1 else 0))) σ := by
  refine Mf.ofW (by decide) (Nat.le_of_ble_eq_true rfl) ?_
  intro p e s m args below meth c ls post hp hI S hr hlk hK h hl
  have hx := S.1
  have hb := S.2.1
  have hok := h.ok
  have hl : lv_has ls 7 [(0, .ref (ad L k)), (1, .int (nI i)), (2, .int (nI j))] := hl
  refine lv_aload_n hx hb dX1_isMiddleAbove_0 rfl (lv_at hl 0 rfl) ?_
  refine g_sums S hK h hk q_60 dX1_isMiddleAbove_1 ?_
  refine lv_iload_n hx hb dX1_isMiddleAbove_4 rfl (lv_at hl 1 rfl) ?_
  refine q_V1 (ci := 4) S hI hK h [.int (nI i)] (c_X4_at l L σ (kd1_3 hk) (by omega)) (kd1_3 hk) rfl (by decide) q_282 q_224 q_225 q_3 q_226 yd_X4_at rfl ⟨⟨rfl, rfl⟩, ⟨(Nat.le_of_ble_eq_true rfl), (Nat.le_of_ble_eq_true rfl)⟩, Nat.le_refl _, Nat.le_refl _⟩ rfl (Nat.le_of_ble_eq_true rfl) hl.1 dX1_isMiddleAbove_5 (fun H locs h => ?_)
  refine cv_i (show ((σ (k + 3)).getD i 0 : Int32) = h_s (A.getD i hd0) from (hv.s _)) ?_
  refine lv_i2l (v := (h_s (A.getD i hd0)).toInt64) hx hb dX1_isMiddleAbove_8 rfl ?_
  refine lv_aload_n hx hb dX1_isMiddleAbove_9 rfl (lv_at hl 0 rfl) ?_
  refine g_weights S hK h hk q_57 dX1_isMiddleAbove_10 ?_
  refine lv_iload_n hx hb dX1_isMiddleAbove_13 rfl (lv_at hl 2 rfl) ?_
  refine q_V1 (ci := 4) S hI hK h [.int (nI j)] (c_X4_at l L σ (kd1_1 hk) (by omega)) (kd1_1 hk) rfl (by decide) q_282 q_224 q_225 q_3 q_226 yd_X4_at rfl ⟨⟨rfl, rfl⟩, ⟨(Nat.le_of_ble_eq_true rfl), (Nat.le_of_ble_eq_true rfl)⟩, Nat.le_refl _, Nat.le_refl _⟩ rfl (Nat.le_of_ble_eq_true rfl) hl.1 dX1_isMiddleAbove_14 (fun H locs h => ?_)
  refine cv_i (show ((σ (k + 1)).getD j 0 : Int32) = h_w (A.getD j hd0) from (hv.w _)) ?_
  refine lv_i2l (v := (h_w (A.getD j hd0)).toInt64) hx hb dX1_isMiddleAbove_17 rfl ?_
  refine lv_lmul hx hb dX1_isMiddleAbove_18 ?_
  refine lv_topl (fun x1 e_x1 => ?_)
  refine lv_lstore_n (lv' := [(3, .long x1), (0, .ref (ad L k)), (1, .int (nI i)), (2, .int (nI j))]) hx hb dX1_isMiddleAbove_19 rfl hl (by decide) rfl (fun ls hl => ?_)
  refine lv_aload_n hx hb dX1_isMiddleAbove_20 rfl (lv_at hl 1 rfl) ?_
  refine g_sums S hK h hk q_60 dX1_isMiddleAbove_21 ?_
  refine lv_iload_n hx hb dX1_isMiddleAbove_24 rfl (lv_at hl 3 rfl) ?_
  refine q_V1 (ci := 4) S hI hK h [.int (nI j)] (c_X4_at l L σ (kd1_3 hk) (by omega)) (kd1_3 hk) rfl (by decide) q_282 q_224 q_225 q_3 q_226 yd_X4_at rfl ⟨⟨rfl, rfl⟩, ⟨(Nat.le_of_ble_eq_true rfl), (Nat.le_of_ble_eq_true rfl)⟩, Nat.le_refl _, Nat.le_refl _⟩ rfl (Nat.le_of_ble_eq_true rfl) hl.1 dX1_isMiddleAbove_25 (fun H locs h => ?_)
  refine cv_i (show ((σ (k + 3)).getD j 0 : Int32) = h_s (A.getD j hd0) from (hv.s _)) ?_
  refine lv_i2l (v := (h_s (A.getD j hd0)).toInt64) hx hb dX1_isMiddleAbove_28 rfl ?_
  refine lv_aload_n hx hb dX1_isMiddleAbove_29 rfl (lv_at hl 1 rfl) ?_
  refine g_weights S hK h hk q_57 dX1_isMiddleAbove_30 ?_
  refine lv_iload_n hx hb dX1_isMiddleAbove_33 rfl (lv_at hl 2 rfl) ?_
  refine q_V1 (ci := 4) S hI hK h [.int (nI i)] (c_X4_at l L σ (kd1_1 hk) (by omega)) (kd1_1 hk) rfl (by decide) q_282 q_224 q_225 q_3 q_226 yd_X4_at rfl ⟨⟨rfl, rfl⟩, ⟨(Nat.le_of_ble_eq_true rfl), (Nat.le_of_ble_eq_true rfl)⟩, Nat.le_refl _, Nat.le_refl _⟩ rfl (Nat.le_of_ble_eq_true rfl) hl.1 dX1_isMiddleAbove_34 (fun H locs h => ?_)
  refine cv_i (show ((σ (k + 1)).getD i 0 : Int32) = h_w (A.getD i hd0) from (hv.w _)) ?_
  refine lv_i2l (v := (h_w (A.getD i hd0)).toInt64) hx hb dX1_isMiddleAbove_37 rfl ?_
  refine lv_lmul hx hb dX1_isMiddleAbove_38 ?_
  refine lv_topl (fun x2 e_x2 => ?_)
  refine lv_lstore (lv' := [(5, .long x2), (3, .long x1), (0, .ref (ad L k)), (1, .int (nI i)), (2, .int (nI j))]) hx hb dX1_isMiddleAbove_39 hl (by decide) rfl (fun ls hl => ?_)
  refine lv_lload_n hx hb dX1_isMiddleAbove_41 rfl (lv_at hl 1 rfl) ?_
  refine lv_lload hx hb dX1_isMiddleAbove_42 (lv_at hl 0 rfl) ?_
  refine lv_lcmpv hx hb dX1_isMiddleAbove_44 ?_
  refine lc_le (tgt := 52) hx hb dX1_isMiddleAbove_45 (by decide) (fun c_45 => ?_) (fun c_45 => ?_)
  · rw [if_neg (fun q => gtH_no e_x1 e_x2 c_45 q)] at hp
    refine lv_iconst (v := (nI 0)) hx hb dX1_isMiddleAbove_52 (by decide) ?_
    exact e_z S hK h hr hlk (Or.inl rfl) dX1_isMiddleAbove_53 hp
  · rw [if_pos (gtH_yes e_x1 e_x2 c_45)] at hp
    refine lv_iconst (v := (nI 1)) hx hb dX1_isMiddleAbove_48 (by decide) ?_
    refine lv_goto (tgt := 53) hx hb dX1_isMiddleAbove_49 (by decide) ?_
    exact e_z S hK h hr hlk (Or.inr rfl) dX1_isMiddleAbove_53 hp

abbrev rX1_exchange : Room := { frames := 1, cells := 0, slots := 0, locals := 23 }
theorem yd_X1_exchange : ydV yX1_exchange RX1 2 := ⟨rfl, by decide +kernel, by decide +kernel, by decide +kernel⟩
set_option maxHeartbeats 4000000 in
set_option maxRecDepth 100000 in
theorem c_X1_exchange (l : Launch) (L : Lay) (σ : St) {k : Nat} {A : List Hp} (hk : kd k = 1) (hv : HV σ k A) {i j : Nat} (hi : i < A.length) (hj : j < A.length) : Mf l L yX1_exchange (Cond.code yX1_exchange cX1_exchange 3 none :: qA) rX1_exchange [.ref (ad L k), .int (nI i), .int (nI j)] σ none (hset σ k (swp hd0 A i j)) := by
  refine Mf.ofW (by decide) (Nat.le_of_ble_eq_true rfl) ?_
  intro p e s m args below meth c ls post hp hI S hr hlk hK h hl
  have hx := S.1
  have hb := S.2.1
  have hok := h.ok
  have hl : lv_has ls 3 [(0, .ref (ad L k)), (1, .int (nI i)), (2, .int (nI j))] := hl
  obtain ⟨hl1, hl3, hl5, hl7⟩ := hv.len
  have hA := hv.le hok hk
  obtain ⟨e1, e3, e5, e7⟩ := hv
  refine lv_aload_n hx hb dX1_exchange_0 rfl (lv_at hl 0 rfl) ?_
  refine g_weights S hK h hk q_57 dX1_exchange_1 ?_
  refine lv_iload_n hx hb dX1_exchange_4 rfl (lv_at hl 1 rfl) ?_
  refine lv_iload_n hx hb dX1_exchange_5 rfl (lv_at hl 2 rfl) ?_
  refine q_V0 (ci := 4) S hI hK h [.int (nI i), .int (nI j)] (c_X4_exchange l L σ (kd1_1 hk) (by omega) (by omega)) (kd1_1 hk) rfl (by decide) q_308 q_309 q_310 q_3 q_311 yd_X4_exchange rfl ⟨⟨rfl, rfl⟩, ⟨(Nat.le_of_ble_eq_true rfl), (Nat.le_of_ble_eq_true rfl)⟩, Nat.le_refl _, Nat.le_refl _⟩ rfl (Nat.le_of_ble_eq_true rfl) hl.1 dX1_exchange_6 (fun H locs h => ?_)
  refine lv_aload_n hx hb dX1_exchange_9 rfl (lv_at hl 0 rfl) ?_
  refine g_sums S hK h hk q_60 dX1_exchange_10 ?_
  refine lv_iload_n hx hb dX1_exchange_13 rfl (lv_at hl 1 rfl) ?_
  refine lv_iload_n hx hb dX1_exchange_14 rfl (lv_at hl 2 rfl) ?_
  refine q_V0 (ci := 4) S hI hK h [.int (nI i), .int (nI j)] (c_X4_exchange l L (up σ (k + 1) (swp 0 (σ (k + 1)) i j)) (kd1_3 hk) (by rw [up_n (by omega)]; omega) (by rw [up_n (by omega)]; omega)) (kd1_3 hk) rfl (by decide) q_308 q_309 q_310 q_3 q_311 yd_X4_exchange rfl ⟨⟨rfl, rfl⟩, ⟨(Nat.le_of_ble_eq_true rfl), (Nat.le_of_ble_eq_true rfl)⟩, Nat.le_refl _, Nat.le_refl _⟩ rfl (Nat.le_of_ble_eq_true rfl) hl.1 dX1_exchange_15 (fun H locs h => ?_)
  refine lv_aload_n hx hb dX1_exchange_18 rfl (lv_at hl 0 rfl) ?_
  refine g_leasts S hK h hk q_63 dX1_exchange_19 ?_
  refine lv_iload_n hx hb dX1_exchange_22 rfl (lv_at hl 1 rfl) ?_
  refine lv_iload_n hx hb dX1_exchange_23 rfl (lv_at hl 2 rfl) ?_
  refine q_V0 (ci := 4) S hI hK h [.int (nI i), .int (nI j)] (c_X4_exchange l L (up (up σ (k + 1) (swp 0 (σ (k + 1)) i j)) (k + 3) (swp 0 ((up σ (k + 1) (swp 0 (σ (k + 1)) i j)) (k + 3)) i j)) (kd1_5 hk) (by rw [up_n (by omega), up_n (by omega)]; omega) (by rw [up_n (by omega), up_n (by omega)]; omega)) (kd1_5 hk) rfl (by decide) q_308 q_309 q_310 q_3 q_311 yd_X4_exchange rfl ⟨⟨rfl, rfl⟩, ⟨(Nat.le_of_ble_eq_true rfl), (Nat.le_of_ble_eq_true rfl)⟩, Nat.le_refl _, Nat.le_refl _⟩ rfl (Nat.le_of_ble_eq_true rfl) hl.1 dX1_exchange_24 (fun H locs h => ?_)
  refine lv_aload_n hx hb dX1_exchange_27 rfl (lv_at hl 0 rfl) ?_
  refine g_greatests S hK h hk q_66 dX1_exchange_28 ?_
  refine lv_iload_n hx hb dX1_exchange_31 rfl (lv_at hl 1 rfl) ?_
  refine lv_iload_n hx hb dX1_exchange_32 rfl (lv_at hl 2 rfl) ?_
  refine q_V0 (ci := 4) S hI hK h [.int (nI i), .int (nI j)] (c_X4_exchange l L (up (up (up σ (k + 1) (swp 0 (σ (k + 1)) i j)) (k + 3) (swp 0 ((up σ (k + 1) (swp 0 (σ (k + 1)) i j)) (k + 3)) i j)) (k + 5) (swp 0 ((up (up σ (k + 1) (swp 0 (σ (k + 1)) i j)) (k + 3) (swp 0 ((up σ (k + 1) (swp 0 (σ (k + 1)) i j)) (k + 3)) i j)) (k + 5)) i j)) (kd1_7 hk) (by rw [up_n (by omega), up_n (by omega), up_n (by omega)]; omega) (by rw [up_n (by omega), up_n (by omega), up_n (by omega)]; omega)) (kd1_7 hk) rfl (by decide) q_308 q_309 q_310 q_3 q_311 yd_X4_exchange rfl ⟨⟨rfl, rfl⟩, ⟨(Nat.le_of_ble_eq_true rfl), (Nat.le_of_ble_eq_true rfl)⟩, Nat.le_refl _, Nat.le_refl _⟩ rfl (Nat.le_of_ble_eq_true rfl) hl.1 dX1_exchange_33 (fun H locs h => ?_)
  exact e_v S hK h hr hlk dX1_exchange_36 (fin_p hp rfl (hset_of ⟨by rw [up_n (by omega), up_n (by omega), up_n (by omega), up_s, e1, swp_map h_w hd0], by rw [up_n (by omega), up_n (by omega), up_s, up_n (by omega), e3, swp_map h_s hd0], by rw [up_n (by omega), up_s, up_n (by omega), up_n (by omega), e5, swp_map h_l hd0], by rw [up_s, up_n (by omega), up_n (by omega), up_n (by omega), e7, swp_map h_g hd0]⟩ (fun j h1 h3 h5 h7 => by simp [up, h1, h3, h5, h7])))

abbrev rX1_unite : Room := { frames := 1, cells := 0, slots := 0, locals := 22 }
theorem yd_X1_unite : ydV yX1_unite RX1 2 := ⟨rfl, by decide +kernel, by decide +kernel, by decide +kernel⟩
set_option maxHeartbeats 4000000 in
set_option maxRecDepth 100000 in
theorem c_X1_unite (l : Launch) (L : Lay) (σ : St) {k : Nat} {A : List Hp} (hk : kd k = 1) (hv : HV σ k A) {i j : Nat} (hi : i < A.length) (hj : j < A.length) : Mf l L yX1_unite (Cond.code yX1_unite cX1_unite 3 none :: qA) rX1_unite [.ref (ad L k), .int (nI i), .int (nI j)] σ none (hset σ k (A.set i (unI (A.getD i hd0) (A.getD j hd0)))) := by
  refine Mf.ofW (by decide) (Nat.le_of_ble_eq_true rfl) ?_
  intro p e s m args below meth c ls post hp hI S hr hlk hK h hl
  have hx := S.1
  have hb := S.2.1
  have hok := h.ok
  have hl : lv_has ls 3 [(0, .ref (ad L k)), (1, .int (nI i)), (2, .int (nI j))] := hl
  obtain ⟨hl1, hl3, hl5, hl7⟩ := hv.len
  have hA := hv.le hok hk
  obtain ⟨e1, e3, e5, e7⟩ := id hv
  refine lv_aload_n hx hb dX1_unite_0 rfl (lv_at hl 0 rfl) ?_
  refine g_weights S hK h hk q_57 dX1_unite_1 ?_
  refine lv_iload_n hx hb dX1_unite_4 rfl (lv_at hl 1 rfl) ?_
  refine lv_aload_n hx hb dX1_unite_5 rfl (lv_at hl 0 rfl) ?_
  refine g_weights S hK h hk q_57 dX1_unite_6 ?_
  refine lv_iload_n hx hb dX1_unite_9 rfl (lv_at hl 1 rfl) ?_
  refine q_V1 (ci := 4) S hI hK h [.int (nI i)] (c_X4_at l L σ (kd1_1 hk) (by omega)) (kd1_1 hk) rfl (by decide) q_282 q_224 q_225 q_3 q_226 yd_X4_at rfl ⟨⟨rfl, rfl⟩, ⟨(Nat.le_of_ble_eq_true rfl), (Nat.le_of_ble_eq_true rfl)⟩, Nat.le_refl _, Nat.le_refl _⟩ rfl (Nat.le_of_ble_eq_true rfl) hl.1 dX1_unite_10 (fun H locs h => ?_)
  refine cv_i (show ((σ (k + 1)).getD i 0 : Int32) = h_w (A.getD i hd0) from (hv.w _)) ?_
  refine lv_aload_n hx hb dX1_unite_13 rfl (lv_at hl 0 rfl) ?_
  refine g_weights S hK h hk q_57 dX1_unite_14 ?_
  refine lv_iload_n hx hb dX1_unite_17 rfl (lv_at hl 2 rfl) ?_
  refine q_V1 (ci := 4) S hI hK h [.int (nI j)] (c_X4_at l L σ (kd1_1 hk) (by omega)) (kd1_1 hk) rfl (by decide) q_282 q_224 q_225 q_3 q_226 yd_X4_at rfl ⟨⟨rfl, rfl⟩, ⟨(Nat.le_of_ble_eq_true rfl), (Nat.le_of_ble_eq_true rfl)⟩, Nat.le_refl _, Nat.le_refl _⟩ rfl (Nat.le_of_ble_eq_true rfl) hl.1 dX1_unite_18 (fun H locs h => ?_)
  refine cv_i (show ((σ (k + 1)).getD j 0 : Int32) = h_w (A.getD j hd0) from (hv.w _)) ?_
  refine lv_iadd hx hb dX1_unite_21 ?_
  refine q_V0 (ci := 4) S hI hK h [.int (nI i), .int ((h_w (A.getD i hd0)) + (h_w (A.getD j hd0)))] (c_X4_put l L σ (kd1_1 hk) (by omega) ((h_w (A.getD i hd0)) + (h_w (A.getD j hd0)))) (kd1_1 hk) rfl (by decide) q_324 q_325 q_326 q_3 q_327 yd_X4_put rfl ⟨⟨rfl, rfl⟩, ⟨(Nat.le_of_ble_eq_true rfl), (Nat.le_of_ble_eq_true rfl)⟩, Nat.le_refl _, Nat.le_refl _⟩ rfl (Nat.le_of_ble_eq_true rfl) hl.1 dX1_unite_22 (fun H locs h => ?_)
  refine lv_aload_n hx hb dX1_unite_25 rfl (lv_at hl 0 rfl) ?_
  refine g_sums S hK h hk q_60 dX1_unite_26 ?_
  refine lv_iload_n hx hb dX1_unite_29 rfl (lv_at hl 1 rfl) ?_
  refine lv_aload_n hx hb dX1_unite_30 rfl (lv_at hl 0 rfl) ?_
  refine g_sums S hK h hk q_60 dX1_unite_31 ?_
  refine lv_iload_n hx hb dX1_unite_34 rfl (lv_at hl 1 rfl) ?_
  refine q_V1 (ci := 4) S hI hK h [.int (nI i)] (c_X4_at l L (up σ (k + 1) ((σ (k + 1)).set i ((h_w (A.getD i hd0)) + (h_w (A.getD j hd0))))) (kd1_3 hk) (by omega)) (kd1_3 hk) rfl (by decide) q_282 q_224 q_225 q_3 q_226 yd_X4_at rfl ⟨⟨rfl, rfl⟩, ⟨(Nat.le_of_ble_eq_true rfl), (Nat.le_of_ble_eq_true rfl)⟩, Nat.le_refl _, Nat.le_refl _⟩ rfl (Nat.le_of_ble_eq_true rfl) hl.1 dX1_unite_35 (fun H locs h => ?_)
  refine cv_i (show (((up σ (k + 1) ((σ (k + 1)).set i ((h_w (A.getD i hd0)) + (h_w (A.getD j hd0))))) (k + 3)).getD i 0 : Int32) = h_s (A.getD i hd0) from (by rw [up_n (by omega)]; exact hv.s _)) ?_
  refine lv_aload_n hx hb dX1_unite_38 rfl (lv_at hl 0 rfl) ?_
  refine g_sums S hK h hk q_60 dX1_unite_39 ?_
  refine lv_iload_n hx hb dX1_unite_42 rfl (lv_at hl 2 rfl) ?_
  refine q_V1 (ci := 4) S hI hK h [.int (nI j)] (c_X4_at l L (up σ (k + 1) ((σ (k + 1)).set i ((h_w (A.getD i hd0)) + (h_w (A.getD j hd0))))) (kd1_3 hk) (by omega)) (kd1_3 hk) rfl (by decide) q_282 q_224 q_225 q_3 q_226 yd_X4_at rfl ⟨⟨rfl, rfl⟩, ⟨(Nat.le_of_ble_eq_true rfl), (Nat.le_of_ble_eq_true rfl)⟩, Nat.le_refl _, Nat.le_refl _⟩ rfl (Nat.le_of_ble_eq_true rfl) hl.1 dX1_unite_43 (fun H locs h => ?_)
  refine cv_i (show (((up σ (k + 1) ((σ (k + 1)).set i ((h_w (A.getD i hd0)) + (h_w (A.getD j hd0))))) (k + 3)).getD j 0 : Int32) = h_s (A.getD j hd0) from (by rw [up_n (by omega)]; exact hv.s _)) ?_
  refine lv_iadd hx hb dX1_unite_46 ?_
  refine q_V0 (ci := 4) S hI hK h [.int (nI i), .int ((h_s (A.getD i hd0)) + (h_s (A.getD j hd0)))] (c_X4_put l L (up σ (k + 1) ((σ (k + 1)).set i ((h_w (A.getD i hd0)) + (h_w (A.getD j hd0))))) (kd1_3 hk) (by omega) ((h_s (A.getD i hd0)) + (h_s (A.getD j hd0)))) (kd1_3 hk) rfl (by decide) q_324 q_325 q_326 q_3 q_327 yd_X4_put rfl ⟨⟨rfl, rfl⟩, ⟨(Nat.le_of_ble_eq_true rfl), (Nat.le_of_ble_eq_true rfl)⟩, Nat.le_refl _, Nat.le_refl _⟩ rfl (Nat.le_of_ble_eq_true rfl) hl.1 dX1_unite_47 (fun H locs h => ?_)
  refine lv_aload_n hx hb dX1_unite_50 rfl (lv_at hl 0 rfl) ?_
  refine g_leasts S hK h hk q_63 dX1_unite_51 ?_
  refine lv_iload_n hx hb dX1_unite_54 rfl (lv_at hl 1 rfl) ?_
  refine lv_aload_n hx hb dX1_unite_55 rfl (lv_at hl 0 rfl) ?_
  refine g_leasts S hK h hk q_63 dX1_unite_56 ?_
  refine lv_iload_n hx hb dX1_unite_59 rfl (lv_at hl 1 rfl) ?_
  refine q_V1 (ci := 4) S hI hK h [.int (nI i)] (c_X4_at l L (up (up σ (k + 1) ((σ (k + 1)).set i ((h_w (A.getD i hd0)) + (h_w (A.getD j hd0))))) (k + 3) (((up σ (k + 1) ((σ (k + 1)).set i ((h_w (A.getD i hd0)) + (h_w (A.getD j hd0))))) (k + 3)).set i ((h_s (A.getD i hd0)) + (h_s (A.getD j hd0))))) (kd1_5 hk) (by omega)) (kd1_5 hk) rfl (by decide) q_282 q_224 q_225 q_3 q_226 yd_X4_at rfl ⟨⟨rfl, rfl⟩, ⟨(Nat.le_of_ble_eq_true rfl), (Nat.le_of_ble_eq_true rfl)⟩, Nat.le_refl _, Nat.le_refl _⟩ rfl (Nat.le_of_ble_eq_true rfl) hl.1 dX1_unite_60 (fun H locs h => ?_)
  refine cv_i (show (((up (up σ (k + 1) ((σ (k + 1)).set i ((h_w (A.getD i hd0)) + (h_w (A.getD j hd0))))) (k + 3) (((up σ (k + 1) ((σ (k + 1)).set i ((h_w (A.getD i hd0)) + (h_w (A.getD j hd0))))) (k + 3)).set i ((h_s (A.getD i hd0)) + (h_s (A.getD j hd0))))) (k + 5)).getD i 0 : Int32) = h_l (A.getD i hd0) from (by rw [up_n (by omega), up_n (by omega)]; exact hv.l _)) ?_
  refine lv_aload_n hx hb dX1_unite_63 rfl (lv_at hl 0 rfl) ?_
  refine g_leasts S hK h hk q_63 dX1_unite_64 ?_
  refine lv_iload_n hx hb dX1_unite_67 rfl (lv_at hl 2 rfl) ?_
  refine q_V1 (ci := 4) S hI hK h [.int (nI j)] (c_X4_at l L (up (up σ (k + 1) ((σ (k + 1)).set i ((h_w (A.getD i hd0)) + (h_w (A.getD j hd0))))) (k + 3) (((up σ (k + 1) ((σ (k + 1)).set i ((h_w (A.getD i hd0)) + (h_w (A.getD j hd0))))) (k + 3)).set i ((h_s (A.getD i hd0)) + (h_s (A.getD j hd0))))) (kd1_5 hk) (by omega)) (kd1_5 hk) rfl (by decide) q_282 q_224 q_225 q_3 q_226 yd_X4_at rfl ⟨⟨rfl, rfl⟩, ⟨(Nat.le_of_ble_eq_true rfl), (Nat.le_of_ble_eq_true rfl)⟩, Nat.le_refl _, Nat.le_refl _⟩ rfl (Nat.le_of_ble_eq_true rfl) hl.1 dX1_unite_68 (fun H locs h => ?_)
  refine cv_i (show (((up (up σ (k + 1) ((σ (k + 1)).set i ((h_w (A.getD i hd0)) + (h_w (A.getD j hd0))))) (k + 3) (((up σ (k + 1) ((σ (k + 1)).set i ((h_w (A.getD i hd0)) + (h_w (A.getD j hd0))))) (k + 3)).set i ((h_s (A.getD i hd0)) + (h_s (A.getD j hd0))))) (k + 5)).getD j 0 : Int32) = h_l (A.getD j hd0) from (by rw [up_n (by omega), up_n (by omega)]; exact hv.l _)) ?_
  refine va_mmin hx hb (S.2.2.1.trans hl.1.symm) S.2.2.2.1 (S.2.2.2.2 _ q_328) (S.2.2.2.2 _ q_253) (S.2.2.2.2 _ q_4) (S.2.2.2.2 _ q_254) (Nat.le_of_ble_eq_true rfl) (Nat.le_of_ble_eq_true rfl) (Nat.zero_le _) (Nat.zero_le _) dX1_unite_71 ?_
  refine q_V0 (ci := 4) S hI hK h [.int (nI i), .int (if (h_l (A.getD j hd0)) < (h_l (A.getD i hd0)) then (h_l (A.getD j hd0)) else (h_l (A.getD i hd0)))] (c_X4_put l L (up (up σ (k + 1) ((σ (k + 1)).set i ((h_w (A.getD i hd0)) + (h_w (A.getD j hd0))))) (k + 3) (((up σ (k + 1) ((σ (k + 1)).set i ((h_w (A.getD i hd0)) + (h_w (A.getD j hd0))))) (k + 3)).set i ((h_s (A.getD i hd0)) + (h_s (A.getD j hd0))))) (kd1_5 hk) (by omega) (if (h_l (A.getD j hd0)) < (h_l (A.getD i hd0)) then (h_l (A.getD j hd0)) else (h_l (A.getD i hd0)))) (kd1_5 hk) rfl (by decide) q_324 q_325 q_326 q_3 q_327 yd_X4_put rfl ⟨⟨rfl, rfl⟩, ⟨(Nat.le_of_ble_eq_true rfl), (Nat.le_of_ble_eq_true rfl)⟩, Nat.le_refl _, Nat.le_refl _⟩ rfl (Nat.le_of_ble_eq_true rfl) hl.1 dX1_unite_74 (fun H locs h => ?_)
  refine lv_aload_n hx hb dX1_unite_77 rfl (lv_at hl 0 rfl) ?_
  refine g_greatests S hK h hk q_66 dX1_unite_78 ?_
  refine lv_iload_n hx hb dX1_unite_81 rfl (lv_at hl 1 rfl) ?_
  refine lv_aload_n hx hb dX1_unite_82 rfl (lv_at hl 0 rfl) ?_
  refine g_greatests S hK h hk q_66 dX1_unite_83 ?_
  refine lv_iload_n hx hb dX1_unite_86 rfl (lv_at hl 1 rfl) ?_
  refine q_V1 (ci := 4) S hI hK h [.int (nI i)] (c_X4_at l L (up (up (up σ (k + 1) ((σ (k + 1)).set i ((h_w (A.getD i hd0)) + (h_w (A.getD j hd0))))) (k + 3) (((up σ (k + 1) ((σ (k + 1)).set i ((h_w (A.getD i hd0)) + (h_w (A.getD j hd0))))) (k + 3)).set i ((h_s (A.getD i hd0)) + (h_s (A.getD j hd0))))) (k + 5) (((up (up σ (k + 1) ((σ (k + 1)).set i ((h_w (A.getD i hd0)) + (h_w (A.getD j hd0))))) (k + 3) (((up σ (k + 1) ((σ (k + 1)).set i ((h_w (A.getD i hd0)) + (h_w (A.getD j hd0))))) (k + 3)).set i ((h_s (A.getD i hd0)) + (h_s (A.getD j hd0))))) (k + 5)).set i (if (h_l (A.getD j hd0)) < (h_l (A.getD i hd0)) then (h_l (A.getD j hd0)) else (h_l (A.getD i hd0))))) (kd1_7 hk) (by omega)) (kd1_7 hk) rfl (by decide) q_282 q_224 q_225 q_3 q_226 yd_X4_at rfl ⟨⟨rfl, rfl⟩, ⟨(Nat.le_of_ble_eq_true rfl), (Nat.le_of_ble_eq_true rfl)⟩, Nat.le_refl _, Nat.le_refl _⟩ rfl (Nat.le_of_ble_eq_true rfl) hl.1 dX1_unite_87 (fun H locs h => ?_)
  refine cv_i (show (((up (up (up σ (k + 1) ((σ (k + 1)).set i ((h_w (A.getD i hd0)) + (h_w (A.getD j hd0))))) (k + 3) (((up σ (k + 1) ((σ (k + 1)).set i ((h_w (A.getD i hd0)) + (h_w (A.getD j hd0))))) (k + 3)).set i ((h_s (A.getD i hd0)) + (h_s (A.getD j hd0))))) (k + 5) (((up (up σ (k + 1) ((σ (k + 1)).set i ((h_w (A.getD i hd0)) + (h_w (A.getD j hd0))))) (k + 3) (((up σ (k + 1) ((σ (k + 1)).set i ((h_w (A.getD i hd0)) + (h_w (A.getD j hd0))))) (k + 3)).set i ((h_s (A.getD i hd0)) + (h_s (A.getD j hd0))))) (k + 5)).set i (if (h_l (A.getD j hd0)) < (h_l (A.getD i hd0)) then (h_l (A.getD j hd0)) else (h_l (A.getD i hd0))))) (k + 7)).getD i 0 : Int32) = h_g (A.getD i hd0) from (by rw [up_n (by omega), up_n (by omega), up_n (by omega)]; exact hv.g _)) ?_
  refine lv_aload_n hx hb dX1_unite_90 rfl (lv_at hl 0 rfl) ?_
  refine g_greatests S hK h hk q_66 dX1_unite_91 ?_
  refine lv_iload_n hx hb dX1_unite_94 rfl (lv_at hl 2 rfl) ?_
  refine q_V1 (ci := 4) S hI hK h [.int (nI j)] (c_X4_at l L (up (up (up σ (k + 1) ((σ (k + 1)).set i ((h_w (A.getD i hd0)) + (h_w (A.getD j hd0))))) (k + 3) (((up σ (k + 1) ((σ (k + 1)).set i ((h_w (A.getD i hd0)) + (h_w (A.getD j hd0))))) (k + 3)).set i ((h_s (A.getD i hd0)) + (h_s (A.getD j hd0))))) (k + 5) (((up (up σ (k + 1) ((σ (k + 1)).set i ((h_w (A.getD i hd0)) + (h_w (A.getD j hd0))))) (k + 3) (((up σ (k + 1) ((σ (k + 1)).set i ((h_w (A.getD i hd0)) + (h_w (A.getD j hd0))))) (k + 3)).set i ((h_s (A.getD i hd0)) + (h_s (A.getD j hd0))))) (k + 5)).set i (if (h_l (A.getD j hd0)) < (h_l (A.getD i hd0)) then (h_l (A.getD j hd0)) else (h_l (A.getD i hd0))))) (kd1_7 hk) (by omega)) (kd1_7 hk) rfl (by decide) q_282 q_224 q_225 q_3 q_226 yd_X4_at rfl ⟨⟨rfl, rfl⟩, ⟨(Nat.le_of_ble_eq_true rfl), (Nat.le_of_ble_eq_true rfl)⟩, Nat.le_refl _, Nat.le_refl _⟩ rfl (Nat.le_of_ble_eq_true rfl) hl.1 dX1_unite_95 (fun H locs h => ?_)
  refine cv_i (show (((up (up (up σ (k + 1) ((σ (k + 1)).set i ((h_w (A.getD i hd0)) + (h_w (A.getD j hd0))))) (k + 3) (((up σ (k + 1) ((σ (k + 1)).set i ((h_w (A.getD i hd0)) + (h_w (A.getD j hd0))))) (k + 3)).set i ((h_s (A.getD i hd0)) + (h_s (A.getD j hd0))))) (k + 5) (((up (up σ (k + 1) ((σ (k + 1)).set i ((h_w (A.getD i hd0)) + (h_w (A.getD j hd0))))) (k + 3) (((up σ (k + 1) ((σ (k + 1)).set i ((h_w (A.getD i hd0)) + (h_w (A.getD j hd0))))) (k + 3)).set i ((h_s (A.getD i hd0)) + (h_s (A.getD j hd0))))) (k + 5)).set i (if (h_l (A.getD j hd0)) < (h_l (A.getD i hd0)) then (h_l (A.getD j hd0)) else (h_l (A.getD i hd0))))) (k + 7)).getD j 0 : Int32) = h_g (A.getD j hd0) from (by rw [up_n (by omega), up_n (by omega), up_n (by omega)]; exact hv.g _)) ?_
  refine va_mmax hx hb (S.2.2.1.trans hl.1.symm) S.2.2.2.1 (S.2.2.2.2 _ q_329) (S.2.2.2.2 _ q_33) (S.2.2.2.2 _ q_4) (S.2.2.2.2 _ q_34) (Nat.le_of_ble_eq_true rfl) (Nat.le_of_ble_eq_true rfl) (Nat.zero_le _) (Nat.zero_le _) dX1_unite_98 ?_
  refine q_V0 (ci := 4) S hI hK h [.int (nI i), .int (if (h_g (A.getD i hd0)) < (h_g (A.getD j hd0)) then (h_g (A.getD j hd0)) else (h_g (A.getD i hd0)))] (c_X4_put l L (up (up (up σ (k + 1) ((σ (k + 1)).set i ((h_w (A.getD i hd0)) + (h_w (A.getD j hd0))))) (k + 3) (((up σ (k + 1) ((σ (k + 1)).set i ((h_w (A.getD i hd0)) + (h_w (A.getD j hd0))))) (k + 3)).set i ((h_s (A.getD i hd0)) + (h_s (A.getD j hd0))))) (k + 5) (((up (up σ (k + 1) ((σ (k + 1)).set i ((h_w (A.getD i hd0)) + (h_w (A.getD j hd0))))) (k + 3) (((up σ (k + 1) ((σ (k + 1)).set i ((h_w (A.getD i hd0)) + (h_w (A.getD j hd0))))) (k + 3)).set i ((h_s (A.getD i hd0)) + (h_s (A.getD j hd0))))) (k + 5)).set i (if (h_l (A.getD j hd0)) < (h_l (A.getD i hd0)) then (h_l (A.getD j hd0)) else (h_l (A.getD i hd0))))) (kd1_7 hk) (by omega) (if (h_g (A.getD i hd0)) < (h_g (A.getD j hd0)) then (h_g (A.getD j hd0)) else (h_g (A.getD i hd0)))) (kd1_7 hk) rfl (by decide) q_324 q_325 q_326 q_3 q_327 yd_X4_put rfl ⟨⟨rfl, rfl⟩, ⟨(Nat.le_of_ble_eq_true rfl), (Nat.le_of_ble_eq_true rfl)⟩, Nat.le_refl _, Nat.le_refl _⟩ rfl (Nat.le_of_ble_eq_true rfl) hl.1 dX1_unite_101 (fun H locs h => ?_)
  exact e_v S hK h hr hlk dX1_unite_104 (fin_p hp rfl (hset_of ⟨by rw [up_n (by omega), up_n (by omega), up_n (by omega)]; rw [up_s, e1, List.map_set]; rfl, by rw [up_n (by omega), up_n (by omega)]; rw [up_s, up_n (by omega), e3, List.map_set]; rfl, by rw [up_n (by omega)]; rw [up_s, up_n (by omega), up_n (by omega), e5, List.map_set]; rfl, by rw [up_s, up_n (by omega), up_n (by omega), up_n (by omega), e7, List.map_set]; rfl⟩ (fun j h1 h3 h5 h7 => by simp [up, h1, h3, h5, h7])))

abbrev rX1_shortenTo : Room := { frames := 1, cells := 0, slots := 0, locals := 21 }
theorem yd_X1_shortenTo : ydV yX1_shortenTo RX1 1 := ⟨rfl, by decide +kernel, by decide +kernel, by decide +kernel⟩
set_option maxHeartbeats 4000000 in
set_option maxRecDepth 100000 in
theorem c_X1_shortenTo (l : Launch) (L : Lay) (σ : St) {k : Nat} {A : List Hp} (hk : kd k = 1) (hv : HV σ k A) {n : Nat} (hn : n < 2 ^ 31) : Mf l L yX1_shortenTo (Cond.code yX1_shortenTo cX1_shortenTo 2 none :: qA) rX1_shortenTo [.ref (ad L k), .int (nI n)] σ none (hset σ k (A.take n)) := by
  refine Mf.ofW (by decide) (Nat.le_of_ble_eq_true rfl) ?_
  intro p e s m args below meth c ls post hp hI S hr hlk hK h hl
  have hx := S.1
  have hb := S.2.1
  have hok := h.ok
  have hl : lv_has ls 2 [(0, .ref (ad L k)), (1, .int (nI n))] := hl
  obtain ⟨e1, e3, e5, e7⟩ := id hv
  refine lv_aload_n hx hb dX1_shortenTo_0 rfl (lv_at hl 0 rfl) ?_
  refine g_weights S hK h hk q_57 dX1_shortenTo_1 ?_
  refine lv_iload_n hx hb dX1_shortenTo_4 rfl (lv_at hl 1 rfl) ?_
  refine q_V0 (ci := 4) S hI hK h [.int (nI n)] (c_X4_shortenTo l L σ (kd1_1 hk) (by omega)) (kd1_1 hk) rfl (by decide) q_334 q_335 q_336 q_3 q_337 yd_X4_shortenTo rfl ⟨⟨rfl, rfl⟩, ⟨(Nat.le_of_ble_eq_true rfl), (Nat.le_of_ble_eq_true rfl)⟩, Nat.le_refl _, Nat.le_refl _⟩ rfl (Nat.le_of_ble_eq_true rfl) hl.1 dX1_shortenTo_5 (fun H locs h => ?_)
  refine lv_aload_n hx hb dX1_shortenTo_8 rfl (lv_at hl 0 rfl) ?_
  refine g_sums S hK h hk q_60 dX1_shortenTo_9 ?_
  refine lv_iload_n hx hb dX1_shortenTo_12 rfl (lv_at hl 1 rfl) ?_
  refine q_V0 (ci := 4) S hI hK h [.int (nI n)] (c_X4_shortenTo l L (up σ (k + 1) ((σ (k + 1)).take n)) (kd1_3 hk) (by omega)) (kd1_3 hk) rfl (by decide) q_334 q_335 q_336 q_3 q_337 yd_X4_shortenTo rfl ⟨⟨rfl, rfl⟩, ⟨(Nat.le_of_ble_eq_true rfl), (Nat.le_of_ble_eq_true rfl)⟩, Nat.le_refl _, Nat.le_refl _⟩ rfl (Nat.le_of_ble_eq_true rfl) hl.1 dX1_shortenTo_13 (fun H locs h => ?_)
  refine lv_aload_n hx hb dX1_shortenTo_16 rfl (lv_at hl 0 rfl) ?_
  refine g_leasts S hK h hk q_63 dX1_shortenTo_17 ?_
  refine lv_iload_n hx hb dX1_shortenTo_20 rfl (lv_at hl 1 rfl) ?_
  refine q_V0 (ci := 4) S hI hK h [.int (nI n)] (c_X4_shortenTo l L (up (up σ (k + 1) ((σ (k + 1)).take n)) (k + 3) (((up σ (k + 1) ((σ (k + 1)).take n)) (k + 3)).take n)) (kd1_5 hk) (by omega)) (kd1_5 hk) rfl (by decide) q_334 q_335 q_336 q_3 q_337 yd_X4_shortenTo rfl ⟨⟨rfl, rfl⟩, ⟨(Nat.le_of_ble_eq_true rfl), (Nat.le_of_ble_eq_true rfl)⟩, Nat.le_refl _, Nat.le_refl _⟩ rfl (Nat.le_of_ble_eq_true rfl) hl.1 dX1_shortenTo_21 (fun H locs h => ?_)
  refine lv_aload_n hx hb dX1_shortenTo_24 rfl (lv_at hl 0 rfl) ?_
  refine g_greatests S hK h hk q_66 dX1_shortenTo_25 ?_
  refine lv_iload_n hx hb dX1_shortenTo_28 rfl (lv_at hl 1 rfl) ?_
  refine q_V0 (ci := 4) S hI hK h [.int (nI n)] (c_X4_shortenTo l L (up (up (up σ (k + 1) ((σ (k + 1)).take n)) (k + 3) (((up σ (k + 1) ((σ (k + 1)).take n)) (k + 3)).take n)) (k + 5) (((up (up σ (k + 1) ((σ (k + 1)).take n)) (k + 3) (((up σ (k + 1) ((σ (k + 1)).take n)) (k + 3)).take n)) (k + 5)).take n)) (kd1_7 hk) (by omega)) (kd1_7 hk) rfl (by decide) q_334 q_335 q_336 q_3 q_337 yd_X4_shortenTo rfl ⟨⟨rfl, rfl⟩, ⟨(Nat.le_of_ble_eq_true rfl), (Nat.le_of_ble_eq_true rfl)⟩, Nat.le_refl _, Nat.le_refl _⟩ rfl (Nat.le_of_ble_eq_true rfl) hl.1 dX1_shortenTo_29 (fun H locs h => ?_)
  exact e_v S hK h hr hlk dX1_shortenTo_32 (fin_p hp rfl (hset_of ⟨by rw [up_n (by omega), up_n (by omega), up_n (by omega)]; rw [up_s, e1, List.map_take], by rw [up_n (by omega), up_n (by omega)]; rw [up_s, up_n (by omega), e3, List.map_take], by rw [up_n (by omega)]; rw [up_s, up_n (by omega), up_n (by omega), e5, List.map_take], by rw [up_s, up_n (by omega), up_n (by omega), up_n (by omega), e7, List.map_take]⟩ (fun j h1 h3 h5 h7 => by simp [up, h1, h3, h5, h7])))
end
section
theorem drop_getD {α : Type} {d : α} {l : List α} {i : Nat} (h : i < l.length) : l.drop i = l.getD i d :: l.drop (i + 1) := by
  rw [List.drop_eq_getElem_cons h, List.getD_eq_getElem?_getD, List.getElem?_eq_getElem h]
  rfl
theorem getD_set_self {α : Type} {d x : α} {l : List α} {i : Nat} (h : i < l.length) : (l.set i x).getD i d = x := by
  rw [List.getD_eq_getElem?_getD, List.getElem?_set_self h]
  rfl
theorem getD_set_ne {α : Type} {d x : α} {l : List α} {i j : Nat} (h : i ≠ j) : (l.set i x).getD j d = l.getD j d := by
  rw [List.getD_eq_getElem?_getD, List.getElem?_set_ne h, List.getD_eq_getElem?_getD]
theorem take_set_le {α : Type} {x : α} {l : List α} {i n : Nat} (h : n ≤ i) : (l.set i x).take n = l.take n := by
  apply List.ext_getElem?
  intro j
  by_cases hj : j < n
  · rw [List.getElem?_take_of_lt hj, List.getElem?_take_of_lt hj, List.getElem?_set_ne (by omega)]
  · rw [List.getElem?_eq_none_iff.mpr (by rw [List.length_take]; omega), List.getElem?_eq_none_iff.mpr (by rw [List.length_take]; omega)]
theorem drop_set_lt {α : Type} {x : α} {l : List α} {i n : Nat} (h : i < n) : (l.set i x).drop n = l.drop n := by
  apply List.ext_getElem?
  intro j
  rw [List.getElem?_drop, List.getElem?_drop, List.getElem?_set_ne (by omega)]
theorem mg_unite {f tot a : Int32} {o i : Nat} {B : List Hp} (ho : o ≤ i) (hi : i + 1 < B.length) (hw : wiB (h_w (B.getD o hd0) + h_w (B.getD (i + 1) hd0)) a tot f = true) :
    B.take o ++ mg f tot a (B.getD o hd0) (B.drop (i + 1)) = (B.set o (unI (B.getD o hd0) (B.getD (i + 1) hd0))).take o ++ mg f tot a ((B.set o (unI (B.getD o hd0) (B.getD (i + 1) hd0))).getD o hd0) ((B.set o (unI (B.getD o hd0) (B.getD (i + 1) hd0))).drop (i + 1 + 1)) := by
  rw [take_set_le (Nat.le_refl _), getD_set_self (by omega), drop_set_lt (by omega), drop_getD (d := hd0) hi, mg, if_pos hw]
theorem mg_next {f tot a : Int32} {o i : Nat} {B : List Hp} (ho : o ≤ i) (hi : i + 1 < B.length) (hw : ¬ wiB (h_w (B.getD o hd0) + h_w (B.getD (i + 1) hd0)) a tot f = true) :
    B.take o ++ mg f tot a (B.getD o hd0) (B.drop (i + 1)) = (swp hd0 B (o + 1) (i + 1)).take (o + 1) ++ mg f tot (a + h_w (B.getD o hd0)) ((swp hd0 B (o + 1) (i + 1)).getD (o + 1) hd0) ((swp hd0 B (o + 1) (i + 1)).drop (i + 1 + 1)) := by
  have e1 : (swp hd0 B (o + 1) (i + 1)).take (o + 1) = B.take (o + 1) := by
    rw [swp, take_set_le (by omega), take_set_le (Nat.le_refl _)]
  have e2 : (swp hd0 B (o + 1) (i + 1)).getD (o + 1) hd0 = B.getD (i + 1) hd0 := by
    rw [swp]
    by_cases q : o = i
    · subst q
      rw [getD_set_self (by rw [List.length_set]; omega)]
    · rw [getD_set_ne (by omega), getD_set_self (by omega)]
  have e3 : (swp hd0 B (o + 1) (i + 1)).drop (i + 1 + 1) = B.drop (i + 1 + 1) := by
    rw [swp, drop_set_lt (by omega), drop_set_lt (by omega)]
  rw [e1, e2, e3, drop_getD (d := hd0) hi, mg, if_neg hw, ← take_snoc (d := hd0) (by omega), List.append_assoc]
  rfl
theorem mg_start {f : Int32} {A : List Hp} (h : A.length ≠ 0) : ptog f A = A.take 0 ++ mg f (wTot A) 0 (A.getD 0 hd0) (A.drop 1) := by
  cases A with
  | nil => exact absurd rfl h
  | cons x r => rfl
theorem mg_end {f tot a : Int32} {o i : Nat} {B : List Hp} (ho : o ≤ i) (hi : i + 1 = B.length) : B.take o ++ mg f tot a (B.getD o hd0) (B.drop (i + 1)) = B.take (o + 1) := by
  rw [List.drop_of_length_le (by omega), mg, take_snoc (by omega)]
theorem mg_fin {f a : Int32} {o i : Nat} {A B : List Hp} (ho : o ≤ i) (hB : B.length = A.length) (hi : i + 1 ≤ A.length ∨ i = 0) (hc : A.length ≤ i + 1) (hr : A.length = 0 ∨ ptog f A = B.take o ++ mg f (wTot A) a (B.getD o hd0) (B.drop (i + 1))) : ptog f A = B.take (o + 1) := by
  rcases Nat.eq_zero_or_pos A.length with q | q
  · rw [List.length_eq_zero_iff.mp q, List.length_eq_zero_iff.mp (hB.trans q)]
    rfl
  · rcases hr with z | z
    · omega
    · rw [z]
      exact mg_end ho (by omega)
section QJ
variable {p : Program} {l : Launch} {e : Env} {R : Room} {s : State} {m : MethodId} {args : Array Value} {below : List Frame} {meth : Method} {c : Code} {H : Heap} {locs : List Loc} {cells slots : Nat} {Q : State → Prop}
variable {cc : ByteArray} {pc tgt nL index : Nat} {off : Int} {own : String} {ls : Array Slot} {rest st0 : List Value} {L : Lay} {H0 : Heap} {σ σ' : St} {k : Nat}
theorem good_J {y : MethodName} {bytes : ByteArray} {n : Nat} {ret : Option FieldType} (w1 : Cond.methodLink own index y ∈ qA) (w2 : Cond.static y ∈ qA) (w4 : Cond.initialized y.cls ∈ qA) (w5 : Cond.code y bytes n ret ∈ qA) : GoodIn qA (va_wsS own index y (Cond.code y bytes n ret :: qA)) := by
  have := good_tail (ws := [.methodLink own index y, .static y, .initialized y.cls, .code y bytes n ret]) (fun w h => by
    simp only [List.mem_cons, List.not_mem_nil, or_false] at h
    rcases h with rfl | rfl | rfl | rfl <;> assumption)
  exact this
/-- a call of a static method of another class, with a known answer -/
theorem q_J1 {v : Value} (S : CallFix p m c cc nL s args qA own) (hI : Inj L) (hK : Kn L s) (h : Hd L s.heap H σ locs) {y : MethodName} {maxL n : Nat} {bytes : ByteArray} {ret : Option FieldType} {rm : Room} (As : List Value) (hM : Mf l L y (Cond.code y bytes maxL ret :: qA) rm As σ (some v) σ')
    (w1 : Cond.methodLink own index y ∈ qA) (w2 : Cond.static y ∈ qA) (w4 : Cond.initialized y.cls ∈ qA) (w5 : Cond.code y bytes maxL ret ∈ qA)
    (hd : ydV y y.cls n) (hn : As.length = n) (hR : rmFit rm R maxL cells slots) (hstk : st0 = As.reverse ++ rest) (hrest : (rest.map fun v => v.category).sum ≤ 8) (hsz : ls.size = nL) (hdg : decode cc pc = .ok (.invokestatic index, 3))
    (kk : ∀ (H1 : Heap) (locs1 : List Loc), Hd L s.heap H1 σ' locs1 → W p l e R s m args below meth c H1 locs1 cells slots Q (F0 m (pc + 3) ls (v :: rest))) : W p l e R s m args below meth c H locs cells slots Q (F0 m pc ls st0) := by
  obtain ⟨hP, hS⟩ := h
  refine va_callg (va_runS (As := As) (rest := rest) S (hM hI) (va_cwS n S.2.2.2.2 (good_J w1 w2 w4 w5) rfl hR.1.1 hR.1.2 hd.2 hR.2.1) ⟨blind_bs _ L σ, fun U hU hW => ⟨rfl, by rw [hU]; exact hP, hK.warm hW⟩⟩ rfl hn hsz hstk (lv_room hrest) hdg hR.2.2) hS (fun q _ h => h) (fun q h => h) (fun r u t H1 locs1 ht _ hp hB _ _ hS1 => ?_)
  obtain ⟨rfl, rfl⟩ := hp
  exact kk H1 locs1 ⟨by rw [← ht]; exact hB.1, hS1⟩
theorem q_SN1 {v : Value} (S : CallFix p m c cc nL s args qA own) (hI : Inj L) (hK : Kn L s) (h : Hd L s.heap H σ locs) {y : MethodName} {host : String} {maxL n : Nat} {bytes : ByteArray} {ret : Option FieldType} {rm : Room} (As : List Value) (hM : Mf l L y (Cond.code y bytes maxL ret :: qA) rm As σ (some v) σ')
    (w1 : va_Nw (.methodLinkNest own index y host) s) (w2 : Cond.static y ∈ qA) (w4 : Cond.initialized y.cls ∈ qA) (w5 : Cond.code y bytes maxL ret ∈ qA)
    (hd : ydV y y.cls n) (hn : As.length = n) (hR : rmFit rm R maxL cells slots) (hstk : st0 = As.reverse ++ rest) (hrest : (rest.map fun v => v.category).sum ≤ 8) (hsz : ls.size = nL) (hdg : decode cc pc = .ok (.invokestatic index, 3))
    (kk : ∀ (H1 : Heap) (locs1 : List Loc), Hd L s.heap H1 σ' locs1 → W p l e R s m args below meth c H1 locs1 cells slots Q (F0 m (pc + 3) ls (v :: rest))) : W p l e R s m args below meth c H locs cells slots Q (F0 m pc ls st0) := by
  refine q_SN S hI hK h hM w1 w2 w4 w5 hd.2 hn hR hstk hrest hsz hdg (fun r u H1 locs1 hp h1 => ?_)
  obtain ⟨rfl, rfl⟩ := hp
  exact kk H1 locs1 h1
theorem e_l {post : Option Value → St → Prop} (S : CallFix p m c cc nL s args qA own) (hK : Kn L s) (h : Hd L s.heap H σ locs) (hr : meth.sig.returnType = some .long) (hlocks : meth.locks = false) {v : Int64} (hd : decode cc pc = .ok (.lreturn, 1)) (hp : post (some (.long v)) σ) : W p l e R s m args below meth c H locs cells slots (MQ below (Qg post (bs L) (Aw L)) args s cells slots (Aw L)) (F0 m pc ls [.long v]) :=
  W.lret S.1 S.2.1 hr (fun t ht hW => ⟨⟨_, σ, rfl, hp, by rw [bs, ht]; exact ⟨h.1, hK.warm hW⟩⟩, h.2.F ht⟩) h.2.2.2 hd hlocks
theorem e_f {post : Option Value → St → Prop} (S : CallFix p m c cc nL s args qA own) (hK : Kn L s) (h : Hd L s.heap H σ locs) (hr : meth.sig.returnType = some .float) (hlocks : meth.locks = false) {v : UInt32} (hd : decode cc pc = .ok (.freturn, 1)) (hp : post (some (.float v)) σ) : W p l e R s m args below meth c H locs cells slots (MQ below (Qg post (bs L) (Aw L)) args s cells slots (Aw L)) (F0 m pc ls [.float v]) :=
  W.fret S.1 S.2.1 hr (fun t ht hW => ⟨⟨_, σ, rfl, hp, by rw [bs, ht]; exact ⟨h.1, hK.warm hW⟩⟩, h.2.F ht⟩) h.2.2.2 hd hlocks
theorem lc_eq (hx : p.tables.exec = Jvm.exec) (hb : c.code = cc) {x y : Int64} (hd : decode cc pc = .ok (.ifCond .eq off, 3)) (ht : (pc : Int) + off = (tgt : Int)) (kt : x = y → W p l e R s m args below meth c H locs cells slots Q (F0 m tgt ls rest)) (kf : x ≠ y → W p l e R s m args below meth c H locs cells slots Q (F0 m (pc + 3) ls rest)) : W p l e R s m args below meth c H locs cells slots Q (F0 m pc ls (.int (lg_cmp x y) :: rest)) :=
  lv_if_eq hx hb hd ht (fun h => kt ((lg_cmp_eq x y).mp h)) (fun h => kf (fun q => h ((lg_cmp_eq x y).mpr q)))
theorem lc_ne (hx : p.tables.exec = Jvm.exec) (hb : c.code = cc) {x y : Int64} (hd : decode cc pc = .ok (.ifCond .ne off, 3)) (ht : (pc : Int) + off = (tgt : Int)) (kt : x ≠ y → W p l e R s m args below meth c H locs cells slots Q (F0 m tgt ls rest)) (kf : x = y → W p l e R s m args below meth c H locs cells slots Q (F0 m (pc + 3) ls rest)) : W p l e R s m args below meth c H locs cells slots Q (F0 m pc ls (.int (lg_cmp x y) :: rest)) :=
  lv_if_ne hx hb hd ht (fun h => kt (fun q => h ((lg_cmp_eq x y).mpr q))) (fun h => kf ((lg_cmp_eq x y).mp h))
/-- a method that the machine runs as bytecode on every platform, though its class has others that it doesn't -/
theorem Met.ofWF {y : MethodName} {ws ws' : List Cond} {rm : Room} {Pc : Array Value → State → Prop} {Qc : Array Value → State → Outcome → State → Prop} {mc ms : Nat} {free : Addr → Prop} {cc : ByteArray} {maxL : Nat} {ret : Option FieldType}
    (hy : plainFor y = true) (hw : ws = Cond.code y cc maxL ret :: ws')
    (body : ∀ (p : Program) (e : Env) (s : State) (m : MethodId) (args : Array Value) (below : List Frame) (meth : Method) (c : Code) (s₁ : State), BodyLoose p l y (headSpec ws rm) cc maxL ret e s m args below meth c s₁ → c.maxLocals = maxL → Pc args s →
      W p l e (headSpec ws rm).room s m args below meth c s.heap [] 0 0 (MQ below Qc args s mc ms free) (entryFrame m args maxL)) : Met l y ws rm Pc Qc mc ms free := by
  refine MetFree.of_bodySF (code := cc) (maxLocals := maxL) (ret := ret) hy ?_ ?_
  · intro args s m h hn
    obtain ⟨meth, c, h1, h2, h3, h4, h5, h6, -, -⟩ := Cond.code_spec hn (atoms_spec (ws := ws) h _ (by rw [hw]; exact List.mem_cons_self))
    exact ⟨meth, c, h1, h2, h3, h4, h5, h6⟩
  · intro p e s m args below meth c s₁ B hml hP _
    have hh0 : s₁.heap = s.heap := by rw [B.state]; rfl
    obtain ⟨t, a1, o, b1, b2, b3⟩ := body p e s m args below meth c s₁ B hml hP s₁ hh0 (Stand.of_body B)
    exact ⟨t, o, a1, b1, b2, ⟨b3.1, b3.2⟩⟩
theorem Mf.ofWF {y : MethodName} {rm : Room} {maxL : Nat} {ret : Option FieldType} {as : List Value} {r : Option Value} (hy : plainFor y = true) (hlen : (lg_sl as).length ≤ maxL)
    (body : ∀ (p : Program) (e : Env) (s : State) (m : MethodId) (args : Array Value) (below : List Frame) (meth : Method) (c : Code) (ls : Array Slot) (post : Option Value → St → Prop), post r σ' → Inj L → CallFix p m c cc maxL s args qA y.cls → meth.sig.returnType = ret → meth.locks = false → Kn L s → Hd L s.heap s.heap σ [] → lv_has ls maxL (lv_args 0 as) →
      W p l e rm s m args below meth c s.heap [] 0 0 (MQ below (Qg post (bs L) (Aw L)) args s 0 0 (Aw L)) (F0 m 0 ls [])) : Mf l L y (Cond.code y cc maxL ret :: qA) rm as σ r σ' := by
  intro hI
  refine Met.ofWF (cc := cc) (maxL := maxL) (ret := ret) hy rfl ?_
  intro p e s m args below meth c s₁ B hml hv
  obtain ⟨rfl, hP, hK⟩ := hv
  have hts := atoms_spec (ws := Cond.code y cc maxL ret :: qA) B.pre
  have hl := lv_entry as (n := maxL) hlen
  rw [lg_entry_eq]
  exact body p e s m _ below meth c _ _ ⟨rfl, rfl⟩ hI ⟨B.exec, B.bytes, hml, findClass_of_methodNamed B.named, fun w h => hts w (List.mem_cons_of_mem _ h)⟩ B.returns B.notSynchronized hK ⟨hP, va_S.rf⟩ hl
end QJ
def pw : Nat → Nat
  | 0 => 0
  | j + 1 => 2 ^ j
theorem pw_half : ∀ j, 2 ^ j / 2 = pw j
  | 0 => rfl
  | j + 1 => by rw [Nat.pow_succ, Nat.mul_div_cancel _ (by omega)]; rfl
theorem pw_le : ∀ j, j < 10 → 2 ^ j ≤ 512 := by decide
end
section
abbrev rX1_order : Room := { frames := 2, cells := 0, slots := 0, locals := 47 }
theorem yd_X1_order : ydV yX1_order RX1 0 := ⟨rfl, by decide +kernel, by decide +kernel, by decide +kernel⟩
set_option maxHeartbeats 4000000 in
set_option maxRecDepth 100000 in
theorem c_X1_order (l : Launch) (L : Lay) (σ : St) {k : Nat} {A : List Hp} (hk : kd k = 1) (hv : HV σ k A) : Mf l L yX1_order (Cond.code yX1_order cX1_order 3 none :: qA) rX1_order [.ref (ad L k)] σ none (hset σ k (order A)) := by
  refine Mf.ofW (by decide) (Nat.le_of_ble_eq_true rfl) ?_
  intro p e s m args below meth c ls post hp hI S hr hlk hK h hl
  have hx := S.1
  have hb := S.2.1
  have hok := h.ok
  have hl : lv_has ls 3 [(0, .ref (ad L k))] := hl
  have hA := hv.le hok hk
  refine lv_iconst (v := (nI 1)) hx hb dX1_order_0 (by decide) ?_
  refine lv_istore_n (lv' := [(1, .int (nI 1)), (0, .ref (ad L k))]) hx hb dX1_order_1 rfl hl (by decide) rfl (fun ls hl => ?_)
  have LP_2 : ∀ (n_2 : Nat) (i : Nat) (σ1 : St), (i + 1 ≤ A.length ∨ i = 0) → (σ1 = hset σ k (oSort A i)) → A.length - i < n_2 → ∀ (H : Heap) (locs : List Loc) (ls : Array Slot), Hd L s.heap H σ1 locs → lv_has ls 3 [(1, .int (nI (i + 1))), (0, .ref (ad L k))] → W p l e rX1_order s m args below meth c H locs 0 0 (MQ below (Qg post (bs L) (Aw L)) args s 0 0 (Aw L)) (F0 m 2 ls []) := by
    intro n_2
    induction n_2 with
    | zero => intro i σ1; intros; omega
    | succ n_2 ih_2 =>
      intro i σ1 hi hσ hm_2 H locs ls h hl
      have hok := h.ok
      have hv1 : HV σ1 k (oSort A i) := by rw [hσ]; exact HV.hset
      have hA1 : (oSort A i).length = A.length := oSort_len i
      refine lv_iload_n hx hb dX1_order_2 rfl (lv_at hl 0 rfl) ?_
      refine lv_aload_n hx hb dX1_order_3 rfl (lv_at hl 1 rfl) ?_
      refine q_V1 (ci := 1) S hI hK h [] (c_X1_size l L σ1 hk hv1) hk rfl (by decide) q_296 q_297 q_298 q_6 q_299 yd_X1_size rfl ⟨⟨rfl, rfl⟩, ⟨(Nat.le_of_ble_eq_true rfl), (Nat.le_of_ble_eq_true rfl)⟩, Nat.le_refl _, Nat.le_refl _⟩ rfl (Nat.le_of_ble_eq_true rfl) hl.1 dX1_order_4 (fun H locs h => ?_)
      refine b_icmp_ge (tgt := 47) hx hb dX1_order_7 (by decide) (by omega) (by omega) (fun c_7 => ?_) (fun c_7 => ?_)
      · have e4 : i = A.length - 1 := by omega
        exact e_v S hK h hr hlk dX1_order_47 (fin_p hp rfl (by rw [hσ, e4]; rfl))
      · refine lv_iload_n hx hb dX1_order_10 rfl (lv_at hl 0 rfl) ?_
        refine lv_istore_n (lv' := [(2, .int (nI (i + 1))), (1, .int (nI (i + 1))), (0, .ref (ad L k))]) hx hb dX1_order_11 rfl hl (by decide) rfl (fun ls hl => ?_)
        have LP_12 : ∀ (n_12 : Nat) (j : Nat) (B : List Hp) (σ2 : St), (j ≤ i + 1) → (σ2 = hset σ k B) → (B.length = A.length) → (sift hd0 gtH j B = oSort A (i + 1)) → j < n_12 → ∀ (H : Heap) (locs : List Loc) (ls : Array Slot), Hd L s.heap H σ2 locs → lv_has ls 3 [(2, .int (nI j)), (1, .int (nI (i + 1))), (0, .ref (ad L k))] → W p l e rX1_order s m args below meth c H locs 0 0 (MQ below (Qg post (bs L) (Aw L)) args s 0 0 (Aw L)) (F0 m 12 ls []) := by
          intro n_12
          induction n_12 with
          | zero => intro j B σ2; intros; omega
          | succ n_12 ih_12 =>
            intro j B σ2 hj hσ2 hB hs hm_12 H locs ls h hl
            have hok := h.ok
            have hv2 : HV σ2 k B := by rw [hσ2]; exact HV.hset
            refine lv_iload_n hx hb dX1_order_12 rfl (lv_at hl 0 rfl) ?_
            refine b_if_le (tgt := 41) hx hb dX1_order_13 (by decide) (by omega) (fun c_13 => ?_) (fun c_13 => ?_)
            · have hs9 : σ2 = hset σ k (oSort A (i + 1)) := by rw [← hs, c_13]; exact hσ2
              refine lv_iinc (v := (nI (i + 1 + 1))) (lv' := [(1, .int (nI (i + 1 + 1))), (2, .int (nI j)), (0, .ref (ad L k))]) hx hb dX1_order_41 hl (k := 1) rfl (iinc_1 _) (by decide) rfl (fun ls hl => ?_)
              refine lv_goto (tgt := 2) hx hb dX1_order_44 (by decide) ?_
              exact ih_2 (i + 1) σ2 (Or.inl (by omega)) hs9 (by omega) _ _ _ h (lv_sub hl [0, 2] rfl)
            · obtain ⟨j1, rfl⟩ : ∃ j1, j = j1 + 1 := ⟨j - 1, by omega⟩
              refine lv_aload_n hx hb dX1_order_16 rfl (lv_at hl 2 rfl) ?_
              refine lv_iload_n hx hb dX1_order_17 rfl (lv_at hl 0 rfl) ?_
              refine lv_iconst (v := (nI 1)) hx hb dX1_order_18 (by decide) ?_
              refine a_isub hx hb dX1_order_19 (by omega) ?_
              refine cv_i (show (nI ((j1 + 1) - 1) : Int32) = nI j1 from (by rw [Nat.add_sub_cancel])) ?_
              refine lv_iload_n hx hb dX1_order_20 rfl (lv_at hl 0 rfl) ?_
              refine q_V1 (ci := 1) S hI hK h [.int (nI j1), .int (nI (j1 + 1))] (c_X1_isMiddleAbove l L σ2 hk hv2 (by omega) (by omega)) hk rfl (by decide) q_300 q_302 qs_3 q_6 q_303 yd_X1_isMiddleAbove rfl ⟨⟨rfl, rfl⟩, ⟨(Nat.le_of_ble_eq_true rfl), (Nat.le_of_ble_eq_true rfl)⟩, Nat.le_refl _, Nat.le_refl _⟩ rfl (Nat.le_of_ble_eq_true rfl) hl.1 dX1_order_21 (fun H locs h => ?_)
              refine z_eq (tgt := 41) hx hb dX1_order_24 (by decide) (fun c_24 => ?_) (fun c_24 => ?_)
              · have hs9 : σ2 = hset σ k (oSort A (i + 1)) := by rw [← hs, sift, if_neg c_24]; exact hσ2
                refine lv_iinc (v := (nI (i + 1 + 1))) (lv' := [(1, .int (nI (i + 1 + 1))), (2, .int (nI (j1 + 1))), (0, .ref (ad L k))]) hx hb dX1_order_41 hl (k := 1) rfl (iinc_1 _) (by decide) rfl (fun ls hl => ?_)
                refine lv_goto (tgt := 2) hx hb dX1_order_44 (by decide) ?_
                exact ih_2 (i + 1) σ2 (Or.inl (by omega)) hs9 (by omega) _ _ _ h (lv_sub hl [0, 2] rfl)
              · refine lv_aload_n hx hb dX1_order_27 rfl (lv_at hl 2 rfl) ?_
                refine lv_iload_n hx hb dX1_order_28 rfl (lv_at hl 0 rfl) ?_
                refine lv_iconst (v := (nI 1)) hx hb dX1_order_29 (by decide) ?_
                refine a_isub hx hb dX1_order_30 (by omega) ?_
                refine cv_i (show (nI ((j1 + 1) - 1) : Int32) = nI j1 from (by rw [Nat.add_sub_cancel])) ?_
                refine lv_iload_n hx hb dX1_order_31 rfl (lv_at hl 0 rfl) ?_
                refine q_V0 (ci := 1) S hI hK h [.int (nI j1), .int (nI (j1 + 1))] (c_X1_exchange l L σ2 hk hv2 (by omega) (by omega)) hk rfl (by decide) q_304 q_306 qs_4 q_6 q_307 yd_X1_exchange rfl ⟨⟨rfl, rfl⟩, ⟨(Nat.le_of_ble_eq_true rfl), (Nat.le_of_ble_eq_true rfl)⟩, Nat.le_refl _, Nat.le_refl _⟩ rfl (Nat.le_of_ble_eq_true rfl) hl.1 dX1_order_32 (fun H locs h => ?_)
                refine lv_iinc (v := (nI j1)) (lv' := [(2, .int (nI j1)), (1, .int (nI (i + 1))), (0, .ref (ad L k))]) hx hb dX1_order_35 hl (k := 0) rfl (iinc_m1 _) (by decide) rfl (fun ls hl => ?_)
                refine lv_goto (tgt := 12) hx hb dX1_order_38 (by decide) ?_
                exact ih_12 j1 (swp hd0 B j1 (j1 + 1)) (hset σ2 k (swp hd0 B j1 (j1 + 1))) (by omega) (by rw [hσ2, hset_hset]) (by rw [swp_len]; exact hB) (by rw [← hs, sift, if_pos c_24]) (by omega) _ _ _ h (lv_sub hl [0, 1, 2] rfl)
        exact LP_12 _ (i + 1) (oSort A i) σ1 (by omega) hσ hA1 rfl (Nat.lt_succ_self _) _ _ _ h (lv_sub hl [0, 1, 2] rfl)
  exact LP_2 _ 0 σ (Or.inr rfl) (hset_id hv).symm (Nat.lt_succ_self _) _ _ _ h (lv_sub hl [0, 1] rfl)

abbrev rX1_isWithinPlace : Room := { frames := 0, cells := 0, slots := 0, locals := 0 }
theorem yd_X1_isWithinPlace : ydV yX1_isWithinPlace RX1 4 := ⟨rfl, by decide +kernel, by decide +kernel, by decide +kernel⟩
set_option maxHeartbeats 4000000 in
set_option maxRecDepth 100000 in
theorem c_X1_isWithinPlace (l : Launch) (L : Lay) (σ : St) (both ahead total f : Int32) : Mf l L yX1_isWithinPlace (Cond.code yX1_isWithinPlace cX1_isWithinPlace 4 (some FieldType.boolean) :: qA) rX1_isWithinPlace [.int both, .int ahead, .int total, .int f] σ (some (.int (if wiB both ahead total f = true then 1 else 0))) σ := by
  refine Mf.ofW (by decide) (Nat.le_of_ble_eq_true rfl) ?_
  intro p e s m args below meth c ls post hp hI S hr hlk hK h hl
  have hx := S.1
  have hb := S.2.1
  have hok := h.ok
  have hl : lv_has ls 4 [(0, .int both), (1, .int ahead), (2, .int total), (3, .int f)] := hl
  refine lv_iload_n hx hb dX1_isWithinPlace_0 rfl (lv_at hl 0 rfl) ?_
  refine lv_iload_n hx hb dX1_isWithinPlace_1 rfl (lv_at hl 2 rfl) ?_
  refine lv_imul hx hb dX1_isWithinPlace_2 ?_
  refine lv_iload_n hx hb dX1_isWithinPlace_3 rfl (lv_at hl 3 rfl) ?_
  refine lv_imul hx hb dX1_isWithinPlace_4 ?_
  refine lv_iconst (v := (nI 2)) hx hb dX1_isWithinPlace_5 (by decide) ?_
  refine lv_iload_n hx hb dX1_isWithinPlace_6 rfl (lv_at hl 1 rfl) ?_
  refine lv_imul hx hb dX1_isWithinPlace_7 ?_
  refine lv_iload_n hx hb dX1_isWithinPlace_8 rfl (lv_at hl 0 rfl) ?_
  refine lv_iadd hx hb dX1_isWithinPlace_9 ?_
  refine lv_iconst (v := (nI 2)) hx hb dX1_isWithinPlace_10 (by decide) ?_
  refine lv_iload_n hx hb dX1_isWithinPlace_11 rfl (lv_at hl 2 rfl) ?_
  refine lv_imul hx hb dX1_isWithinPlace_12 ?_
  refine lv_iconst (v := (nI 2)) hx hb dX1_isWithinPlace_13 (by decide) ?_
  refine lv_iload_n hx hb dX1_isWithinPlace_14 rfl (lv_at hl 1 rfl) ?_
  refine lv_imul hx hb dX1_isWithinPlace_15 ?_
  refine lv_isub hx hb dX1_isWithinPlace_16 ?_
  refine lv_iload_n hx hb dX1_isWithinPlace_17 rfl (lv_at hl 0 rfl) ?_
  refine lv_isub hx hb dX1_isWithinPlace_18 ?_
  refine lv_imul hx hb dX1_isWithinPlace_19 ?_
  refine lv_icmp_gt (tgt := 27) hx hb dX1_isWithinPlace_20 (by decide) (fun c_20 => ?_) (fun c_20 => ?_)
  · rw [if_neg (show ¬ wiB both ahead total f = true from fun q => Int32.not_le.mpr c_20 (of_decide_eq_true q))] at hp
    refine lv_iconst (v := (nI 0)) hx hb dX1_isWithinPlace_27 (by decide) ?_
    exact e_z S hK h hr hlk (Or.inl rfl) dX1_isWithinPlace_28 hp
  · rw [if_pos (show wiB both ahead total f = true from decide_eq_true (Int32.not_lt.mp c_20))] at hp
    refine lv_iconst (v := (nI 1)) hx hb dX1_isWithinPlace_23 (by decide) ?_
    refine lv_goto (tgt := 28) hx hb dX1_isWithinPlace_24 (by decide) ?_
    exact e_z S hK h hr hlk (Or.inr rfl) dX1_isWithinPlace_28 hp

abbrev rX1_putTogether : Room := { frames := 2, cells := 0, slots := 0, locals := 45 }
theorem yd_X1_putTogether : ydV yX1_putTogether RX1 1 := ⟨rfl, by decide +kernel, by decide +kernel, by decide +kernel⟩
set_option maxHeartbeats 4000000 in
set_option maxRecDepth 100000 in
theorem c_X1_putTogether (l : Launch) (L : Lay) (σ : St) {k : Nat} {A : List Hp} (hk : kd k = 1) (hv : HV σ k A) (f : Int32) : Mf l L yX1_putTogether (Cond.code yX1_putTogether cX1_putTogether 7 none :: qA) rX1_putTogether [.ref (ad L k), .int f] σ none (hset σ k (ptog f A)) := by
  refine Mf.ofW (by decide) (Nat.le_of_ble_eq_true rfl) ?_
  intro p e s m args below meth c ls post hp hI S hr hlk hK h hl
  have hx := S.1
  have hb := S.2.1
  have hok := h.ok
  have hl : lv_has ls 7 [(0, .ref (ad L k)), (1, .int f)] := hl
  have hA := hv.le hok hk
  refine lv_aload_n hx hb dX1_putTogether_0 rfl (lv_at hl 0 rfl) ?_
  refine g_weights S hK h hk q_57 dX1_putTogether_1 ?_
  refine q_V1 (ci := 4) S hI hK h [] (c_X4_total l L σ (kd1_1 hk)) (kd1_1 hk) rfl (by decide) q_316 q_220 q_221 q_3 q_222 yd_X4_total rfl ⟨⟨rfl, rfl⟩, ⟨(Nat.le_of_ble_eq_true rfl), (Nat.le_of_ble_eq_true rfl)⟩, Nat.le_refl _, Nat.le_refl _⟩ rfl (Nat.le_of_ble_eq_true rfl) hl.1 dX1_putTogether_4 (fun H locs h => ?_)
  refine cv_i (show (isum (σ (k + 1)) (σ (k + 1)).length : Int32) = wTot A from hv.tot) ?_
  refine lv_istore_n (lv' := [(2, .int (wTot A)), (0, .ref (ad L k)), (1, .int f)]) hx hb dX1_putTogether_7 rfl hl (by decide) rfl (fun ls hl => ?_)
  refine lv_iconst (v := (nI 0)) hx hb dX1_putTogether_8 (by decide) ?_
  refine lv_istore_n (lv' := [(3, .int (nI 0)), (2, .int (wTot A)), (0, .ref (ad L k)), (1, .int f)]) hx hb dX1_putTogether_9 rfl hl (by decide) rfl (fun ls hl => ?_)
  refine lv_iconst (v := (nI 0)) hx hb dX1_putTogether_10 (by decide) ?_
  refine lv_istore (lv' := [(4, .int (nI 0)), (3, .int (nI 0)), (2, .int (wTot A)), (0, .ref (ad L k)), (1, .int f)]) hx hb dX1_putTogether_11 hl (by decide) rfl (fun ls hl => ?_)
  refine lv_iconst (v := (nI 1)) hx hb dX1_putTogether_13 (by decide) ?_
  refine lv_istore (lv' := [(5, .int (nI 1)), (4, .int (nI 0)), (3, .int (nI 0)), (2, .int (wTot A)), (0, .ref (ad L k)), (1, .int f)]) hx hb dX1_putTogether_14 hl (by decide) rfl (fun ls hl => ?_)
  have LP_16 : ∀ (n_16 : Nat) (i : Nat) (o : Nat) (a : Int32) (B : List Hp) (σ1 : St), (i + 1 ≤ A.length ∨ i = 0) → (o ≤ i) → (B.length = A.length) → (σ1 = hset σ k B) → (A.length = 0 ∨ ptog f A = B.take o ++ mg f (wTot A) a (B.getD o hd0) (B.drop (i + 1))) → A.length - i < n_16 → ∀ (H : Heap) (locs : List Loc) (ls : Array Slot), Hd L s.heap H σ1 locs → lv_has ls 7 [(5, .int (nI (i + 1))), (4, .int (nI o)), (3, .int a), (2, .int (wTot A)), (1, .int f), (0, .ref (ad L k))] → W p l e rX1_putTogether s m args below meth c H locs 0 0 (MQ below (Qg post (bs L) (Aw L)) args s 0 0 (Aw L)) (F0 m 16 ls []) := by
    intro n_16
    induction n_16 with
    | zero => intro i o a B σ1; intros; omega
    | succ n_16 ih_16 =>
      intro i o a B σ1 hi ho hB hσ hrr hm_16 H locs ls h hl
      have hok := h.ok
      have hv1 : HV σ1 k B := by rw [hσ]; exact HV.hset
      refine lv_iload hx hb dX1_putTogether_16 (lv_at hl 0 rfl) ?_
      refine lv_aload_n hx hb dX1_putTogether_18 rfl (lv_at hl 5 rfl) ?_
      refine q_V1 (ci := 1) S hI hK h [] (c_X1_size l L σ1 hk hv1) hk rfl (by decide) q_296 q_297 q_298 q_6 q_299 yd_X1_size rfl ⟨⟨rfl, rfl⟩, ⟨(Nat.le_of_ble_eq_true rfl), (Nat.le_of_ble_eq_true rfl)⟩, Nat.le_refl _, Nat.le_refl _⟩ rfl (Nat.le_of_ble_eq_true rfl) hl.1 dX1_putTogether_19 (fun H locs h => ?_)
      refine cv_i (show (nI B.length : Int32) = nI A.length from (by rw [hB])) ?_
      refine b_icmp_ge (tgt := 97) hx hb dX1_putTogether_22 (by decide) (by omega) (by omega) (fun c_22 => ?_) (fun c_22 => ?_)
      · refine lv_aload_n hx hb dX1_putTogether_97 rfl (lv_at hl 5 rfl) ?_
        refine lv_iload hx hb dX1_putTogether_98 (lv_at hl 1 rfl) ?_
        refine lv_iconst (v := (nI 1)) hx hb dX1_putTogether_100 (by decide) ?_
        refine a_iadd hx hb dX1_putTogether_101 ?_
        refine q_V0 (ci := 1) S hI hK h [.int (nI (o + 1))] (c_X1_shortenTo l L σ1 hk hv1 (by omega)) hk rfl (by decide) q_330 q_332 qs_7 q_6 q_333 yd_X1_shortenTo rfl ⟨⟨rfl, rfl⟩, ⟨(Nat.le_of_ble_eq_true rfl), (Nat.le_of_ble_eq_true rfl)⟩, Nat.le_refl _, Nat.le_refl _⟩ rfl (Nat.le_of_ble_eq_true rfl) hl.1 dX1_putTogether_102 (fun H locs h => ?_)
        exact e_v S hK h hr hlk dX1_putTogether_105 (fin_p hp rfl (by rw [hσ, hset_hset]; congr 1; exact (mg_fin ho hB hi c_22 hrr).symm))
      · have hr1 := hrr.resolve_left (by omega)
        refine lv_aload_n hx hb dX1_putTogether_25 rfl (lv_at hl 5 rfl) ?_
        refine g_weights S hK h hk q_57 dX1_putTogether_26 ?_
        refine lv_iload hx hb dX1_putTogether_29 (lv_at hl 1 rfl) ?_
        refine q_V1 (ci := 4) S hI hK h [.int (nI o)] (c_X4_at l L σ1 (kd1_1 hk) (by omega)) (kd1_1 hk) rfl (by decide) q_282 q_224 q_225 q_3 q_226 yd_X4_at rfl ⟨⟨rfl, rfl⟩, ⟨(Nat.le_of_ble_eq_true rfl), (Nat.le_of_ble_eq_true rfl)⟩, Nat.le_refl _, Nat.le_refl _⟩ rfl (Nat.le_of_ble_eq_true rfl) hl.1 dX1_putTogether_31 (fun H locs h => ?_)
        refine cv_i (show ((σ1 (k + 1)).getD o 0 : Int32) = h_w (B.getD o hd0) from (hv1.w _)) ?_
        refine lv_aload_n hx hb dX1_putTogether_34 rfl (lv_at hl 5 rfl) ?_
        refine g_weights S hK h hk q_57 dX1_putTogether_35 ?_
        refine lv_iload hx hb dX1_putTogether_38 (lv_at hl 0 rfl) ?_
        refine q_V1 (ci := 4) S hI hK h [.int (nI (i + 1))] (c_X4_at l L σ1 (kd1_1 hk) (by omega)) (kd1_1 hk) rfl (by decide) q_282 q_224 q_225 q_3 q_226 yd_X4_at rfl ⟨⟨rfl, rfl⟩, ⟨(Nat.le_of_ble_eq_true rfl), (Nat.le_of_ble_eq_true rfl)⟩, Nat.le_refl _, Nat.le_refl _⟩ rfl (Nat.le_of_ble_eq_true rfl) hl.1 dX1_putTogether_40 (fun H locs h => ?_)
        refine cv_i (show ((σ1 (k + 1)).getD (i + 1) 0 : Int32) = h_w (B.getD (i + 1) hd0) from (hv1.w _)) ?_
        refine lv_iadd hx hb dX1_putTogether_43 ?_
        refine lv_istore (lv' := [(6, .int ((h_w (B.getD o hd0)) + (h_w (B.getD (i + 1) hd0)))), (5, .int (nI (i + 1))), (4, .int (nI o)), (3, .int a), (2, .int (wTot A)), (1, .int f), (0, .ref (ad L k))]) hx hb dX1_putTogether_44 hl (by decide) rfl (fun ls hl => ?_)
        refine lv_iload hx hb dX1_putTogether_46 (lv_at hl 0 rfl) ?_
        refine lv_iload_n hx hb dX1_putTogether_48 rfl (lv_at hl 3 rfl) ?_
        refine lv_iload_n hx hb dX1_putTogether_49 rfl (lv_at hl 4 rfl) ?_
        refine lv_iload_n hx hb dX1_putTogether_50 rfl (lv_at hl 5 rfl) ?_
        refine q_S1 S hI hK h [.int ((h_w (B.getD o hd0)) + (h_w (B.getD (i + 1) hd0))), .int a, .int (wTot A), .int f] (c_X1_isWithinPlace l L σ1 ((h_w (B.getD o hd0)) + (h_w (B.getD (i + 1) hd0))) a (wTot A) f) q_317 q_318 q_6 q_319 yd_X1_isWithinPlace rfl ⟨⟨rfl, rfl⟩, ⟨(Nat.le_of_ble_eq_true rfl), (Nat.le_of_ble_eq_true rfl)⟩, Nat.le_refl _, Nat.le_refl _⟩ rfl (Nat.le_of_ble_eq_true rfl) hl.1 dX1_putTogether_51 (fun H locs h => ?_)
        refine z_eq (tgt := 68) hx hb dX1_putTogether_54 (by decide) (fun c_54 => ?_) (fun c_54 => ?_)
        · refine lv_iload_n hx hb dX1_putTogether_68 rfl (lv_at hl 3 rfl) ?_
          refine lv_aload_n hx hb dX1_putTogether_69 rfl (lv_at hl 6 rfl) ?_
          refine g_weights S hK h hk q_57 dX1_putTogether_70 ?_
          refine lv_iload hx hb dX1_putTogether_73 (lv_at hl 2 rfl) ?_
          refine q_V1 (ci := 4) S hI hK h [.int (nI o)] (c_X4_at l L σ1 (kd1_1 hk) (by omega)) (kd1_1 hk) rfl (by decide) q_282 q_224 q_225 q_3 q_226 yd_X4_at rfl ⟨⟨rfl, rfl⟩, ⟨(Nat.le_of_ble_eq_true rfl), (Nat.le_of_ble_eq_true rfl)⟩, Nat.le_refl _, Nat.le_refl _⟩ rfl (Nat.le_of_ble_eq_true rfl) hl.1 dX1_putTogether_75 (fun H locs h => ?_)
          refine cv_i (show ((σ1 (k + 1)).getD o 0 : Int32) = h_w (B.getD o hd0) from (hv1.w _)) ?_
          refine lv_iadd hx hb dX1_putTogether_78 ?_
          refine lv_istore_n (lv' := [(3, .int (a + (h_w (B.getD o hd0)))), (6, .int ((h_w (B.getD o hd0)) + (h_w (B.getD (i + 1) hd0)))), (5, .int (nI (i + 1))), (4, .int (nI o)), (2, .int (wTot A)), (1, .int f), (0, .ref (ad L k))]) hx hb dX1_putTogether_79 rfl hl (by decide) rfl (fun ls hl => ?_)
          refine lv_iinc (v := (nI (o + 1))) (lv' := [(4, .int (nI (o + 1))), (3, .int (a + (h_w (B.getD o hd0)))), (6, .int ((h_w (B.getD o hd0)) + (h_w (B.getD (i + 1) hd0)))), (5, .int (nI (i + 1))), (2, .int (wTot A)), (1, .int f), (0, .ref (ad L k))]) hx hb dX1_putTogether_80 hl (k := 3) rfl (iinc_1 _) (by decide) rfl (fun ls hl => ?_)
          refine lv_aload_n hx hb dX1_putTogether_83 rfl (lv_at hl 6 rfl) ?_
          refine lv_iload hx hb dX1_putTogether_84 (lv_at hl 0 rfl) ?_
          refine lv_iload hx hb dX1_putTogether_86 (lv_at hl 3 rfl) ?_
          refine q_V0 (ci := 1) S hI hK h [.int (nI (o + 1)), .int (nI (i + 1))] (c_X1_exchange l L σ1 hk hv1 (by omega) (by omega)) hk rfl (by decide) q_304 q_306 qs_4 q_6 q_307 yd_X1_exchange rfl ⟨⟨rfl, rfl⟩, ⟨(Nat.le_of_ble_eq_true rfl), (Nat.le_of_ble_eq_true rfl)⟩, Nat.le_refl _, Nat.le_refl _⟩ rfl (Nat.le_of_ble_eq_true rfl) hl.1 dX1_putTogether_88 (fun H locs h => ?_)
          refine lv_iinc (v := (nI (i + 1 + 1))) (lv' := [(5, .int (nI (i + 1 + 1))), (4, .int (nI (o + 1))), (3, .int (a + (h_w (B.getD o hd0)))), (6, .int ((h_w (B.getD o hd0)) + (h_w (B.getD (i + 1) hd0)))), (2, .int (wTot A)), (1, .int f), (0, .ref (ad L k))]) hx hb dX1_putTogether_91 hl (k := 3) rfl (iinc_1 _) (by decide) rfl (fun ls hl => ?_)
          refine lv_goto (tgt := 16) hx hb dX1_putTogether_94 (by decide) ?_
          exact ih_16 (i + 1) (o + 1) (a + h_w (B.getD o hd0)) (swp hd0 B (o + 1) (i + 1)) _ (Or.inl (by omega)) (by omega) (by rw [swp_len]; exact hB) (by rw [hσ, hset_hset]) (Or.inr (hr1.trans (mg_next ho (by omega) c_54))) (by omega) _ _ _ h (lv_sub hl [0, 1, 2, 4, 5, 6] rfl)
        · refine lv_aload_n hx hb dX1_putTogether_57 rfl (lv_at hl 6 rfl) ?_
          refine lv_iload hx hb dX1_putTogether_58 (lv_at hl 2 rfl) ?_
          refine lv_iload hx hb dX1_putTogether_60 (lv_at hl 1 rfl) ?_
          refine q_V0 (ci := 1) S hI hK h [.int (nI o), .int (nI (i + 1))] (c_X1_unite l L σ1 hk hv1 (by omega) (by omega)) hk rfl (by decide) q_320 q_322 qs_6 q_6 q_323 yd_X1_unite rfl ⟨⟨rfl, rfl⟩, ⟨(Nat.le_of_ble_eq_true rfl), (Nat.le_of_ble_eq_true rfl)⟩, Nat.le_refl _, Nat.le_refl _⟩ rfl (Nat.le_of_ble_eq_true rfl) hl.1 dX1_putTogether_62 (fun H locs h => ?_)
          refine lv_goto (tgt := 91) hx hb dX1_putTogether_65 (by decide) ?_
          refine lv_iinc (v := (nI (i + 1 + 1))) (lv' := [(5, .int (nI (i + 1 + 1))), (6, .int ((h_w (B.getD o hd0)) + (h_w (B.getD (i + 1) hd0)))), (4, .int (nI o)), (3, .int a), (2, .int (wTot A)), (1, .int f), (0, .ref (ad L k))]) hx hb dX1_putTogether_91 hl (k := 1) rfl (iinc_1 _) (by decide) rfl (fun ls hl => ?_)
          refine lv_goto (tgt := 16) hx hb dX1_putTogether_94 (by decide) ?_
          exact ih_16 (i + 1) o a (B.set o (unI (B.getD o hd0) (B.getD (i + 1) hd0))) _ (Or.inl (by omega)) (by omega) (by rw [List.length_set]; exact hB) (by rw [hσ, hset_hset]) (Or.inr (hr1.trans (mg_unite ho (by omega) c_54))) (by omega) _ _ _ h (lv_sub hl [0, 2, 3, 4, 5, 6] rfl)
  exact LP_16 _ 0 0 (nI 0) A σ (Or.inr rfl) (by omega) rfl (hset_id hv).symm (by rcases Nat.eq_zero_or_pos A.length with q | q; exact Or.inl q; exact Or.inr (mg_start (by omega))) (Nat.lt_succ_self _) _ _ _ h (lv_sub hl [0, 1, 2, 3, 5, 4] rfl)

abbrev rX1_packBy : Room := { frames := 3, cells := 0, slots := 0, locals := 71 }
theorem yd_X1_packBy : ydV yX1_packBy RX1 1 := ⟨rfl, by decide +kernel, by decide +kernel, by decide +kernel⟩
set_option maxHeartbeats 4000000 in
set_option maxRecDepth 100000 in
theorem c_X1_packBy (l : Launch) (L : Lay) (σ : St) {k : Nat} {A : List Hp} (hk : kd k = 1) (hv : HV σ k A) (f : Int32) : Mf l L yX1_packBy (Cond.code yX1_packBy cX1_packBy 2 none :: qA) rX1_packBy [.ref (ad L k), .int f] σ none (hset σ k (packL f A)) := by
  refine Mf.ofW (by decide) (Nat.le_of_ble_eq_true rfl) ?_
  intro p e s m args below meth c ls post hp hI S hr hlk hK h hl
  have hx := S.1
  have hb := S.2.1
  have hok := h.ok
  have hl : lv_has ls 2 [(0, .ref (ad L k)), (1, .int f)] := hl
  refine lv_aload_n hx hb dX1_packBy_0 rfl (lv_at hl 0 rfl) ?_
  refine q_V0 (ci := 1) S hI hK h [] (c_X1_order l L σ hk hv) hk rfl (by decide) q_292 q_294 qs_2 q_6 q_295 yd_X1_order rfl ⟨⟨rfl, rfl⟩, ⟨(Nat.le_of_ble_eq_true rfl), (Nat.le_of_ble_eq_true rfl)⟩, Nat.le_refl _, Nat.le_refl _⟩ rfl (Nat.le_of_ble_eq_true rfl) hl.1 dX1_packBy_1 (fun H locs h => ?_)
  refine lv_aload_n hx hb dX1_packBy_4 rfl (lv_at hl 0 rfl) ?_
  refine lv_iload_n hx hb dX1_packBy_5 rfl (lv_at hl 1 rfl) ?_
  refine q_V0 (ci := 1) S hI hK h [.int f] (c_X1_putTogether l L (hset σ k (order A)) hk HV.hset  f) hk rfl (by decide) q_312 q_314 qs_5 q_6 q_315 yd_X1_putTogether rfl ⟨⟨rfl, rfl⟩, ⟨(Nat.le_of_ble_eq_true rfl), (Nat.le_of_ble_eq_true rfl)⟩, Nat.le_refl _, Nat.le_refl _⟩ rfl (Nat.le_of_ble_eq_true rfl) hl.1 dX1_packBy_6 (fun H locs h => ?_)
  exact e_v S hK h hr hlk dX1_packBy_9 (fin_p hp rfl hset_hset)

abbrev rX1_widthAt : Room := { frames := 2, cells := 0, slots := 0, locals := 40 }
theorem yd_X1_widthAt : ydV yX1_widthAt RX1 1 := ⟨rfl, by decide +kernel, by decide +kernel, by decide +kernel⟩
set_option maxHeartbeats 4000000 in
set_option maxRecDepth 100000 in
theorem c_X1_widthAt (l : Launch) (L : Lay) (σ : St) {k : Nat} {A : List Hp} (hk : kd k = 1) (hv : HV σ k A) (x : Int32) : Mf l L yX1_widthAt (Cond.code yX1_widthAt cX1_widthAt 4 (some FieldType.int) :: qA) rX1_widthAt [.ref (ad L k), .int x] σ (some (.int (wAt x (nI 0) A))) σ := by
  refine Mf.ofW (by decide) (Nat.le_of_ble_eq_true rfl) ?_
  intro p e s m args below meth c ls post hp hI S hr hlk hK h hl
  have hx := S.1
  have hb := S.2.1
  have hok := h.ok
  have hl : lv_has ls 4 [(0, .ref (ad L k)), (1, .int x)] := hl
  have hA := hv.le hok hk
  refine lv_iconst (v := (nI 0)) hx hb dX1_widthAt_0 (by decide) ?_
  refine lv_istore_n (lv' := [(2, .int (nI 0)), (0, .ref (ad L k)), (1, .int x)]) hx hb dX1_widthAt_1 rfl hl (by decide) rfl (fun ls hl => ?_)
  refine lv_iconst (v := (nI 0)) hx hb dX1_widthAt_2 (by decide) ?_
  refine lv_istore_n (lv' := [(3, .int (nI 0)), (2, .int (nI 0)), (0, .ref (ad L k)), (1, .int x)]) hx hb dX1_widthAt_3 rfl hl (by decide) rfl (fun ls hl => ?_)
  have LP_4 : ∀ (n_4 : Nat) (i : Nat) (acc : Int32), (i ≤ A.length) → (wAt x (nI 0) A = wAt x acc (A.drop i)) → A.length - i < n_4 → ∀ (H : Heap) (locs : List Loc) (ls : Array Slot), Hd L s.heap H σ locs → lv_has ls 4 [(3, .int (nI i)), (2, .int acc), (0, .ref (ad L k)), (1, .int x)] → W p l e rX1_widthAt s m args below meth c H locs 0 0 (MQ below (Qg post (bs L) (Aw L)) args s 0 0 (Aw L)) (F0 m 4 ls []) := by
    intro n_4
    induction n_4 with
    | zero => intro i acc; intros; omega
    | succ n_4 ih_4 =>
      intro i acc hi ha hm_4 H locs ls h hl
      have hok := h.ok
      refine lv_iload_n hx hb dX1_widthAt_4 rfl (lv_at hl 0 rfl) ?_
      refine lv_aload_n hx hb dX1_widthAt_5 rfl (lv_at hl 2 rfl) ?_
      refine q_V1 (ci := 1) S hI hK h [] (c_X1_size l L σ hk hv) hk rfl (by decide) q_296 q_297 q_298 q_6 q_299 yd_X1_size rfl ⟨⟨rfl, rfl⟩, ⟨(Nat.le_of_ble_eq_true rfl), (Nat.le_of_ble_eq_true rfl)⟩, Nat.le_refl _, Nat.le_refl _⟩ rfl (Nat.le_of_ble_eq_true rfl) hl.1 dX1_widthAt_6 (fun H locs h => ?_)
      refine b_icmp_ge (tgt := 52) hx hb dX1_widthAt_9 (by decide) (by omega) (by omega) (fun c_9 => ?_) (fun c_9 => ?_)
      · have e4 : A.drop i = [] := List.drop_of_length_le (by omega)
        refine lv_iconst (v := (nI 0)) hx hb dX1_widthAt_52 (by decide) ?_
        exact e_i S hK h hr hlk dX1_widthAt_53 (fin_p hp (by rw [ha, e4]; rfl) rfl)
      · have ed := drop_getD (d := hd0) c_9
        refine lv_iload_n hx hb dX1_widthAt_12 rfl (lv_at hl 1 rfl) ?_
        refine lv_aload_n hx hb dX1_widthAt_13 rfl (lv_at hl 2 rfl) ?_
        refine g_weights S hK h hk q_57 dX1_widthAt_14 ?_
        refine lv_iload_n hx hb dX1_widthAt_17 rfl (lv_at hl 0 rfl) ?_
        refine q_V1 (ci := 4) S hI hK h [.int (nI i)] (c_X4_at l L σ (kd1_1 hk) (by omega)) (kd1_1 hk) rfl (by decide) q_282 q_224 q_225 q_3 q_226 yd_X4_at rfl ⟨⟨rfl, rfl⟩, ⟨(Nat.le_of_ble_eq_true rfl), (Nat.le_of_ble_eq_true rfl)⟩, Nat.le_refl _, Nat.le_refl _⟩ rfl (Nat.le_of_ble_eq_true rfl) hl.1 dX1_widthAt_18 (fun H locs h => ?_)
        refine cv_i (show ((σ (k + 1)).getD i 0 : Int32) = h_w (A.getD i hd0) from (hv.w _)) ?_
        refine lv_iadd hx hb dX1_widthAt_21 ?_
        refine lv_istore_n (lv' := [(2, .int (acc + (h_w (A.getD i hd0)))), (3, .int (nI i)), (0, .ref (ad L k)), (1, .int x)]) hx hb dX1_widthAt_22 rfl hl (by decide) rfl (fun ls hl => ?_)
        refine lv_iload_n hx hb dX1_widthAt_23 rfl (lv_at hl 0 rfl) ?_
        refine lv_iload_n hx hb dX1_widthAt_24 rfl (lv_at hl 3 rfl) ?_
        refine lv_icmp_le (tgt := 46) hx hb dX1_widthAt_25 (by decide) (fun c_25 => ?_) (fun c_25 => ?_)
        · refine lv_iinc (v := (nI (i + 1))) (lv' := [(3, .int (nI (i + 1))), (2, .int (acc + (h_w (A.getD i hd0)))), (0, .ref (ad L k)), (1, .int x)]) hx hb dX1_widthAt_46 hl (k := 1) rfl (iinc_1 _) (by decide) rfl (fun ls hl => ?_)
          refine lv_goto (tgt := 4) hx hb dX1_widthAt_49 (by decide) ?_
          exact ih_4 (i + 1) (acc + (h_w (A.getD i hd0))) (by omega) (by rw [ha, ed, wAt, if_neg (Int32.not_lt.mpr c_25)]) (by omega) _ _ _ h (lv_sub hl [0, 1, 2, 3] rfl)
        · refine lv_aload_n hx hb dX1_widthAt_28 rfl (lv_at hl 2 rfl) ?_
          refine g_greatests S hK h hk q_66 dX1_widthAt_29 ?_
          refine lv_iload_n hx hb dX1_widthAt_32 rfl (lv_at hl 1 rfl) ?_
          refine q_V1 (ci := 4) S hI hK h [.int (nI i)] (c_X4_at l L σ (kd1_7 hk) (by omega)) (kd1_7 hk) rfl (by decide) q_282 q_224 q_225 q_3 q_226 yd_X4_at rfl ⟨⟨rfl, rfl⟩, ⟨(Nat.le_of_ble_eq_true rfl), (Nat.le_of_ble_eq_true rfl)⟩, Nat.le_refl _, Nat.le_refl _⟩ rfl (Nat.le_of_ble_eq_true rfl) hl.1 dX1_widthAt_33 (fun H locs h => ?_)
          refine cv_i (show ((σ (k + 7)).getD i 0 : Int32) = h_g (A.getD i hd0) from (hv.g _)) ?_
          refine lv_aload_n hx hb dX1_widthAt_36 rfl (lv_at hl 2 rfl) ?_
          refine g_leasts S hK h hk q_63 dX1_widthAt_37 ?_
          refine lv_iload_n hx hb dX1_widthAt_40 rfl (lv_at hl 1 rfl) ?_
          refine q_V1 (ci := 4) S hI hK h [.int (nI i)] (c_X4_at l L σ (kd1_5 hk) (by omega)) (kd1_5 hk) rfl (by decide) q_282 q_224 q_225 q_3 q_226 yd_X4_at rfl ⟨⟨rfl, rfl⟩, ⟨(Nat.le_of_ble_eq_true rfl), (Nat.le_of_ble_eq_true rfl)⟩, Nat.le_refl _, Nat.le_refl _⟩ rfl (Nat.le_of_ble_eq_true rfl) hl.1 dX1_widthAt_41 (fun H locs h => ?_)
          refine cv_i (show ((σ (k + 5)).getD i 0 : Int32) = h_l (A.getD i hd0) from (hv.l _)) ?_
          refine lv_isub hx hb dX1_widthAt_44 ?_
          exact e_i S hK h hr hlk dX1_widthAt_45 (fin_p hp (by rw [ha, ed, wAt, if_pos (Int32.not_le.mp c_25)]) rfl)
  exact LP_4 _ 0 (nI 0) (by omega) rfl (Nat.lt_succ_self _) _ _ _ h (lv_sub hl [0, 1, 2, 3] rfl)

abbrev rJ9_floorDiv_f86c9 : Room := { frames := 0, cells := 0, slots := 0, locals := 0 }
theorem yd_J9_floorDiv_f86c9 : ydV yJ9_floorDiv_f86c9 RJ9 2 := ⟨rfl, by decide +kernel, by decide +kernel, by decide +kernel⟩
set_option maxHeartbeats 4000000 in
set_option maxRecDepth 100000 in
theorem c_J9_floorDiv_f86c9 (l : Launch) (L : Lay) (σ : St) (x y : Int64) (hy : ¬ y = 0) : Mf l L yJ9_floorDiv_f86c9 (Cond.code yJ9_floorDiv_f86c9 cJ9_floorDiv_f86c9 6 (some FieldType.long) :: qA) rJ9_floorDiv_f86c9 [.long x, .long y] σ (some (.long (fdv x y))) σ := by
  refine Mf.ofWF (by decide +kernel) (Nat.le_of_ble_eq_true rfl) ?_
  intro p e s m args below meth c ls post hp hI S hr hlk hK h hl
  have hx := S.1
  have hb := S.2.1
  have hok := h.ok
  have hl : lv_has ls 6 [(0, .long x), (2, .long y)] := hl
  refine lv_lload_n hx hb dJ9_floorDiv_f86c9_0 rfl (lv_at hl 0 rfl) ?_
  refine lv_lload_n hx hb dJ9_floorDiv_f86c9_1 rfl (lv_at hl 1 rfl) ?_
  refine lv_ldiv hx hb dJ9_floorDiv_f86c9_2 hy ?_
  refine lv_lstore (lv' := [(4, .long (x / y)), (0, .long x), (2, .long y)]) hx hb dJ9_floorDiv_f86c9_3 hl (by decide) rfl (fun ls hl => ?_)
  refine lv_lload_n hx hb dJ9_floorDiv_f86c9_5 rfl (lv_at hl 1 rfl) ?_
  refine lv_lload_n hx hb dJ9_floorDiv_f86c9_6 rfl (lv_at hl 2 rfl) ?_
  refine lv_lxor hx hb dJ9_floorDiv_f86c9_7 ?_
  refine lv_lconst (v := 0) hx hb dJ9_floorDiv_f86c9_8 (by decide) ?_
  refine lv_lcmpv hx hb dJ9_floorDiv_f86c9_9 ?_
  refine lc_ge (tgt := 27) hx hb dJ9_floorDiv_f86c9_10 (by decide) (fun c_10 => ?_) (fun c_10 => ?_)
  · refine lv_lload hx hb dJ9_floorDiv_f86c9_27 (lv_at hl 0 rfl) ?_
    exact e_l S hK h hr hlk dJ9_floorDiv_f86c9_29 (by first | exact fin_p hp (by rw [fdv, if_neg (fun q => Int64.not_lt.mpr c_10 q.1)]) rfl | exact fin_p hp (by rw [fdv, if_neg (fun q => q.2 c_19)]) rfl)
  · refine lv_lload hx hb dJ9_floorDiv_f86c9_13 (lv_at hl 0 rfl) ?_
    refine lv_lload_n hx hb dJ9_floorDiv_f86c9_15 rfl (lv_at hl 2 rfl) ?_
    refine lv_lmul hx hb dJ9_floorDiv_f86c9_16 ?_
    refine lv_lload_n hx hb dJ9_floorDiv_f86c9_17 rfl (lv_at hl 1 rfl) ?_
    refine lv_lcmpv hx hb dJ9_floorDiv_f86c9_18 ?_
    refine lc_eq (tgt := 27) hx hb dJ9_floorDiv_f86c9_19 (by decide) (fun c_19 => ?_) (fun c_19 => ?_)
    · refine lv_lload hx hb dJ9_floorDiv_f86c9_27 (lv_at hl 0 rfl) ?_
      exact e_l S hK h hr hlk dJ9_floorDiv_f86c9_29 (by first | exact fin_p hp (by rw [fdv, if_neg (fun q => Int64.not_lt.mpr c_10 q.1)]) rfl | exact fin_p hp (by rw [fdv, if_neg (fun q => q.2 c_19)]) rfl)
    · refine lv_lload hx hb dJ9_floorDiv_f86c9_22 (lv_at hl 0 rfl) ?_
      refine lv_lconst (v := 1) hx hb dJ9_floorDiv_f86c9_24 (by decide) ?_
      refine lv_lsub hx hb dJ9_floorDiv_f86c9_25 ?_
      exact e_l S hK h hr hlk dJ9_floorDiv_f86c9_26 (fin_p hp (by rw [fdv, if_pos ⟨c_10, c_19⟩]) rfl)

abbrev rX1_between : Room := { frames := 1, cells := 0, slots := 0, locals := 25 }
theorem yd_X1_between : ydV yX1_between RX1 7 := ⟨rfl, by decide +kernel, by decide +kernel, by decide +kernel⟩
set_option maxHeartbeats 4000000 in
set_option maxRecDepth 100000 in
theorem c_X1_between (l : Launch) (L : Lay) (σ : St) (su we pl ns nw np t : Int64) : Mf l L yX1_between (Cond.code yX1_between cX1_between 22 (some FieldType.int) :: qA) rX1_between [.long su, .long we, .long pl, .long ns, .long nw, .long np, .long t] σ (some (.int (btw su we pl ns nw np t))) σ := by
  refine Mf.ofW (by decide) (Nat.le_of_ble_eq_true rfl) ?_
  intro p e s m args below meth c ls post hp hI S hr hlk hK h hl
  have hx := S.1
  have hb := S.2.1
  have hok := h.ok
  have hl : lv_has ls 22 [(0, .long su), (2, .long we), (4, .long pl), (6, .long ns), (8, .long nw), (10, .long np), (12, .long t)] := hl
  refine lv_lload hx hb dX1_between_0 (lv_at hl 5 rfl) ?_
  refine lv_lload hx hb dX1_between_2 (lv_at hl 2 rfl) ?_
  refine lv_lsub hx hb dX1_between_4 ?_
  refine lv_lstore (lv' := [(14, .long (np - pl)), (0, .long su), (2, .long we), (4, .long pl), (6, .long ns), (8, .long nw), (10, .long np), (12, .long t)]) hx hb dX1_between_5 hl (by decide) rfl (fun ls hl => ?_)
  refine lv_lload_n hx hb dX1_between_7 rfl (lv_at hl 2 rfl) ?_
  refine lv_lload hx hb dX1_between_8 (lv_at hl 5 rfl) ?_
  refine lv_lmul hx hb dX1_between_10 ?_
  refine lv_lload hx hb dX1_between_11 (lv_at hl 0 rfl) ?_
  refine lv_lmul hx hb dX1_between_13 ?_
  refine lv_lstore (lv' := [(16, .long ((we * nw) * (np - pl))), (14, .long (np - pl)), (0, .long su), (2, .long we), (4, .long pl), (6, .long ns), (8, .long nw), (10, .long np), (12, .long t)]) hx hb dX1_between_14 hl (by decide) rfl (fun ls hl => ?_)
  refine lv_lload hx hb dX1_between_16 (lv_at hl 0 rfl) ?_
  refine lv_lconst (v := 0) hx hb dX1_between_18 (by decide) ?_
  refine lv_lcmpv hx hb dX1_between_19 ?_
  refine lc_gt (tgt := 25) hx hb dX1_between_20 (by decide) (fun c_20 => ?_) (fun c_20 => ?_)
  · have hnz : ¬ we * nw * (np - pl) = 0 := fun q => by rw [q] at c_20; exact absurd c_20 (by decide)
    refine lv_lload_n hx hb dX1_between_25 rfl (lv_at hl 2 rfl) ?_
    refine lv_lload hx hb dX1_between_26 (lv_at hl 6 rfl) ?_
    refine lv_lmul hx hb dX1_between_28 ?_
    refine lv_lstore (lv' := [(18, .long (su * nw)), (16, .long ((we * nw) * (np - pl))), (14, .long (np - pl)), (0, .long su), (2, .long we), (4, .long pl), (6, .long ns), (8, .long nw), (10, .long np), (12, .long t)]) hx hb dX1_between_29 hl (by decide) rfl (fun ls hl => ?_)
    refine lv_lload hx hb dX1_between_31 (lv_at hl 6 rfl) ?_
    refine lv_lload_n hx hb dX1_between_33 rfl (lv_at hl 4 rfl) ?_
    refine lv_lmul hx hb dX1_between_34 ?_
    refine lv_lload hx hb dX1_between_35 (lv_at hl 0 rfl) ?_
    refine lv_lsub hx hb dX1_between_37 ?_
    refine lv_lstore (lv' := [(20, .long ((ns * we) - (su * nw))), (18, .long (su * nw)), (16, .long ((we * nw) * (np - pl))), (14, .long (np - pl)), (0, .long su), (2, .long we), (4, .long pl), (6, .long ns), (8, .long nw), (10, .long np), (12, .long t)]) hx hb dX1_between_38 hl (by decide) rfl (fun ls hl => ?_)
    refine lv_lload hx hb dX1_between_40 (lv_at hl 1 rfl) ?_
    refine lv_lload hx hb dX1_between_42 (lv_at hl 3 rfl) ?_
    refine lv_lmul hx hb dX1_between_44 ?_
    refine lv_lload hx hb dX1_between_45 (lv_at hl 0 rfl) ?_
    refine lv_lload hx hb dX1_between_47 (lv_at hl 10 rfl) ?_
    refine lv_lload hx hb dX1_between_49 (lv_at hl 6 rfl) ?_
    refine lv_lsub hx hb dX1_between_51 ?_
    refine lv_lmul hx hb dX1_between_52 ?_
    refine lv_ladd hx hb dX1_between_53 ?_
    refine lv_lload hx hb dX1_between_54 (lv_at hl 2 rfl) ?_
    refine q_J1 S hI hK h [.long (((su * nw) * (np - pl)) + (((ns * we) - (su * nw)) * (t - pl))), .long ((we * nw) * (np - pl))] (c_J9_floorDiv_f86c9 l L σ (((su * nw) * (np - pl)) + (((ns * we) - (su * nw)) * (t - pl))) ((we * nw) * (np - pl)) hnz) q_466 q_467 q_4 q_468 yd_J9_floorDiv_f86c9 rfl ⟨⟨rfl, rfl⟩, ⟨(Nat.le_of_ble_eq_true rfl), (Nat.le_of_ble_eq_true rfl)⟩, Nat.le_refl _, Nat.le_refl _⟩ rfl (Nat.le_of_ble_eq_true rfl) hl.1 dX1_between_56 (fun H locs h => ?_)
    refine lv_l2i (v := (fdv (((su * nw) * (np - pl)) + (((ns * we) - (su * nw)) * (t - pl))) ((we * nw) * (np - pl))).toInt32) hx hb dX1_between_59 rfl ?_
    exact e_i S hK h hr hlk dX1_between_60 (fin_p hp (by rw [btw, if_neg (Int64.not_le.mpr c_20)]) rfl)
  · refine lv_iconst (v := (nI 0)) hx hb dX1_between_23 (by decide) ?_
    exact e_i S hK h hr hlk dX1_between_24 (fin_p hp (by rw [btw, if_pos c_20]; rfl) rfl)

abbrev rX1_quantileAt : Room := { frames := 2, cells := 0, slots := 0, locals := 66 }
theorem yd_X1_quantileAt : ydV yX1_quantileAt RX1 1 := ⟨rfl, by decide +kernel, by decide +kernel, by decide +kernel⟩
set_option maxHeartbeats 4000000 in
set_option maxRecDepth 100000 in
theorem c_X1_quantileAt (l : Launch) (L : Lay) (σ : St) {k : Nat} {A : List Hp} (hk : kd k = 1) (hv : HV σ k A) (q : Int32) : Mf l L yX1_quantileAt (Cond.code yX1_quantileAt cX1_quantileAt 12 (some FieldType.int) :: qA) rX1_quantileAt [.ref (ad L k), .int q] σ (some (.int (qAt A q))) σ := by
  refine Mf.ofW (by decide) (Nat.le_of_ble_eq_true rfl) ?_
  intro p e s m args below meth c ls post hp hI S hr hlk hK h hl
  have hx := S.1
  have hb := S.2.1
  have hok := h.ok
  have hl : lv_has ls 12 [(0, .ref (ad L k)), (1, .int q)] := hl
  have hA := hv.le hok hk
  have hg : imax (σ (k+7)) (σ (k+7)).length = imax (A.map h_g) A.length := by rw [hv.2.2.2, List.length_map]
  have hm : imin (σ (k+5)) (σ (k+5)).length = imin (A.map h_l) A.length := by rw [hv.2.2.1, List.length_map]
  refine lv_aload_n hx hb dX1_quantileAt_0 rfl (lv_at hl 0 rfl) ?_
  refine g_weights S hK h hk q_57 dX1_quantileAt_1 ?_
  refine q_V1 (ci := 4) S hI hK h [] (c_X4_total l L σ (kd1_1 hk)) (kd1_1 hk) rfl (by decide) q_316 q_220 q_221 q_3 q_222 yd_X4_total rfl ⟨⟨rfl, rfl⟩, ⟨(Nat.le_of_ble_eq_true rfl), (Nat.le_of_ble_eq_true rfl)⟩, Nat.le_refl _, Nat.le_refl _⟩ rfl (Nat.le_of_ble_eq_true rfl) hl.1 dX1_quantileAt_4 (fun H locs h => ?_)
  refine cv_i (show (isum (σ (k + 1)) (σ (k + 1)).length : Int32) = wTot A from hv.tot) ?_
  refine lv_istore_n (lv' := [(2, .int (wTot A)), (0, .ref (ad L k)), (1, .int q)]) hx hb dX1_quantileAt_7 rfl hl (by decide) rfl (fun ls hl => ?_)
  refine lv_iload_n hx hb dX1_quantileAt_8 rfl (lv_at hl 2 rfl) ?_
  refine lv_iload_n hx hb dX1_quantileAt_9 rfl (lv_at hl 0 rfl) ?_
  refine lv_imul hx hb dX1_quantileAt_10 ?_
  refine lv_istore_n (lv' := [(3, .int (q * (wTot A))), (2, .int (wTot A)), (0, .ref (ad L k)), (1, .int q)]) hx hb dX1_quantileAt_11 rfl hl (by decide) rfl (fun ls hl => ?_)
  refine lv_iconst (v := (nI 0)) hx hb dX1_quantileAt_12 (by decide) ?_
  refine lv_istore (lv' := [(4, .int (nI 0)), (3, .int (q * (wTot A))), (2, .int (wTot A)), (0, .ref (ad L k)), (1, .int q)]) hx hb dX1_quantileAt_13 hl (by decide) rfl (fun ls hl => ?_)
  refine lv_iconst (v := (nI 0)) hx hb dX1_quantileAt_15 (by decide) ?_
  refine lv_istore (lv' := [(5, .int (nI 0)), (4, .int (nI 0)), (3, .int (q * (wTot A))), (2, .int (wTot A)), (0, .ref (ad L k)), (1, .int q)]) hx hb dX1_quantileAt_16 hl (by decide) rfl (fun ls hl => ?_)
  refine lv_aload_n hx hb dX1_quantileAt_18 rfl (lv_at hl 4 rfl) ?_
  refine g_leasts S hK h hk q_63 dX1_quantileAt_19 ?_
  refine q_V1 (ci := 4) S hI hK h [] (c_X4_least l L σ (kd1_5 hk)) (kd1_5 hk) rfl (by decide) q_462 q_426 q_427 q_3 q_428 yd_X4_least rfl ⟨⟨rfl, rfl⟩, ⟨(Nat.le_of_ble_eq_true rfl), (Nat.le_of_ble_eq_true rfl)⟩, Nat.le_refl _, Nat.le_refl _⟩ rfl (Nat.le_of_ble_eq_true rfl) hl.1 dX1_quantileAt_22 (fun H locs h => ?_)
  refine cv_i (show (imin (σ (k + 5)) (σ (k + 5)).length : Int32) = imin (A.map h_l) A.length from hm) ?_
  refine lv_istore (lv' := [(6, .int (imin (A.map h_l) A.length)), (5, .int (nI 0)), (4, .int (nI 0)), (3, .int (q * (wTot A))), (2, .int (wTot A)), (0, .ref (ad L k)), (1, .int q)]) hx hb dX1_quantileAt_25 hl (by decide) rfl (fun ls hl => ?_)
  refine lv_iconst (v := (nI 1)) hx hb dX1_quantileAt_27 (by decide) ?_
  refine lv_istore (lv' := [(7, .int (nI 1)), (6, .int (imin (A.map h_l) A.length)), (5, .int (nI 0)), (4, .int (nI 0)), (3, .int (q * (wTot A))), (2, .int (wTot A)), (0, .ref (ad L k)), (1, .int q)]) hx hb dX1_quantileAt_28 hl (by decide) rfl (fun ls hl => ?_)
  refine lv_iconst (v := (nI 0)) hx hb dX1_quantileAt_30 (by decide) ?_
  refine lv_istore (lv' := [(8, .int (nI 0)), (7, .int (nI 1)), (6, .int (imin (A.map h_l) A.length)), (5, .int (nI 0)), (4, .int (nI 0)), (3, .int (q * (wTot A))), (2, .int (wTot A)), (0, .ref (ad L k)), (1, .int q)]) hx hb dX1_quantileAt_31 hl (by decide) rfl (fun ls hl => ?_)
  have LP_33 : ∀ (n_33 : Nat) (i : Nat) (ah : Int32) (pl : Int32) (su : Int32) (we : Int32), (i ≤ A.length) → (qAt A q = qScan (imax (A.map h_g) A.length) (wTot A) (q * wTot A) ah pl su we (A.drop i)) → A.length - i < n_33 → ∀ (H : Heap) (locs : List Loc) (ls : Array Slot), Hd L s.heap H σ locs → lv_has ls 12 [(8, .int (nI i)), (7, .int we), (6, .int su), (5, .int pl), (4, .int ah), (3, .int (q * wTot A)), (2, .int (wTot A)), (0, .ref (ad L k)), (1, .int q)] → W p l e rX1_quantileAt s m args below meth c H locs 0 0 (MQ below (Qg post (bs L) (Aw L)) args s 0 0 (Aw L)) (F0 m 33 ls []) := by
    intro n_33
    induction n_33 with
    | zero => intro i ah pl su we; intros; omega
    | succ n_33 ih_33 =>
      intro i ah pl su we hi hq hm_33 H locs ls h hl
      have hok := h.ok
      refine lv_iload hx hb dX1_quantileAt_33 (lv_at hl 0 rfl) ?_
      refine lv_aload_n hx hb dX1_quantileAt_35 rfl (lv_at hl 7 rfl) ?_
      refine q_V1 (ci := 1) S hI hK h [] (c_X1_size l L σ hk hv) hk rfl (by decide) q_296 q_297 q_298 q_6 q_299 yd_X1_size rfl ⟨⟨rfl, rfl⟩, ⟨(Nat.le_of_ble_eq_true rfl), (Nat.le_of_ble_eq_true rfl)⟩, Nat.le_refl _, Nat.le_refl _⟩ rfl (Nat.le_of_ble_eq_true rfl) hl.1 dX1_quantileAt_36 (fun H locs h => ?_)
      refine b_icmp_ge (tgt := 134) hx hb dX1_quantileAt_39 (by decide) (by omega) (by omega) (fun c_39 => ?_) (fun c_39 => ?_)
      · have e4 : A.drop i = [] := List.drop_of_length_le (by omega)
        refine lv_iload hx hb dX1_quantileAt_134 (lv_at hl 2 rfl) ?_
        refine lv_i2l (v := su.toInt64) hx hb dX1_quantileAt_136 rfl ?_
        refine lv_iload hx hb dX1_quantileAt_137 (lv_at hl 1 rfl) ?_
        refine lv_i2l (v := we.toInt64) hx hb dX1_quantileAt_139 rfl ?_
        refine lv_iload hx hb dX1_quantileAt_140 (lv_at hl 3 rfl) ?_
        refine lv_i2l (v := pl.toInt64) hx hb dX1_quantileAt_142 rfl ?_
        refine lv_aload_n hx hb dX1_quantileAt_143 rfl (lv_at hl 7 rfl) ?_
        refine g_greatests S hK h hk q_66 dX1_quantileAt_144 ?_
        refine q_V1 (ci := 4) S hI hK h [] (c_X4_greatest l L σ (kd1_7 hk)) (kd1_7 hk) rfl (by decide) q_469 q_436 q_437 q_3 q_438 yd_X4_greatest rfl ⟨⟨rfl, rfl⟩, ⟨(Nat.le_of_ble_eq_true rfl), (Nat.le_of_ble_eq_true rfl)⟩, Nat.le_refl _, Nat.le_refl _⟩ rfl (Nat.le_of_ble_eq_true rfl) hl.1 dX1_quantileAt_147 (fun H locs h => ?_)
        refine cv_i (show (imax (σ (k + 7)) (σ (k + 7)).length : Int32) = imax (A.map h_g) A.length from hg) ?_
        refine lv_i2l (v := (imax (A.map h_g) A.length).toInt64) hx hb dX1_quantileAt_150 rfl ?_
        refine lv_lconst (v := 1) hx hb dX1_quantileAt_151 (by decide) ?_
        refine lv_sipush (v := (nI 1000)) hx hb dX1_quantileAt_152 (by decide) ?_
        refine lv_iload_n hx hb dX1_quantileAt_155 rfl (lv_at hl 6 rfl) ?_
        refine lv_imul hx hb dX1_quantileAt_156 ?_
        refine lv_i2l (v := ((nI 1000) * (wTot A)).toInt64) hx hb dX1_quantileAt_157 rfl ?_
        refine lv_iload_n hx hb dX1_quantileAt_158 rfl (lv_at hl 5 rfl) ?_
        refine lv_i2l (v := (q * wTot A).toInt64) hx hb dX1_quantileAt_159 rfl ?_
        refine q_S1 S hI hK h [.long su.toInt64, .long we.toInt64, .long pl.toInt64, .long ((imax (A.map h_g) A.length).toInt64), .long (1 : Int64), .long (((nI 1000) * (wTot A)).toInt64), .long ((q * wTot A).toInt64)] (c_X1_between l L σ su.toInt64 we.toInt64 pl.toInt64 ((imax (A.map h_g) A.length).toInt64) (1 : Int64) (((nI 1000) * (wTot A)).toInt64) ((q * wTot A).toInt64)) q_463 q_464 q_6 q_465 yd_X1_between rfl ⟨⟨rfl, rfl⟩, ⟨(Nat.le_of_ble_eq_true rfl), (Nat.le_of_ble_eq_true rfl)⟩, Nat.le_refl _, Nat.le_refl _⟩ rfl (Nat.le_of_ble_eq_true rfl) hl.1 dX1_quantileAt_160 (fun H locs h => ?_)
        exact e_i S hK h hr hlk dX1_quantileAt_163 (fin_p hp (by rw [hq, e4, qScan]) rfl)
      · have ed := drop_getD (d := hd0) c_39
        refine lv_aload_n hx hb dX1_quantileAt_42 rfl (lv_at hl 7 rfl) ?_
        refine g_sums S hK h hk q_60 dX1_quantileAt_43 ?_
        refine lv_iload hx hb dX1_quantileAt_46 (lv_at hl 0 rfl) ?_
        refine q_V1 (ci := 4) S hI hK h [.int (nI i)] (c_X4_at l L σ (kd1_3 hk) (by omega)) (kd1_3 hk) rfl (by decide) q_282 q_224 q_225 q_3 q_226 yd_X4_at rfl ⟨⟨rfl, rfl⟩, ⟨(Nat.le_of_ble_eq_true rfl), (Nat.le_of_ble_eq_true rfl)⟩, Nat.le_refl _, Nat.le_refl _⟩ rfl (Nat.le_of_ble_eq_true rfl) hl.1 dX1_quantileAt_48 (fun H locs h => ?_)
        refine cv_i (show ((σ (k + 3)).getD i 0 : Int32) = h_s (A.getD i hd0) from (hv.s _)) ?_
        refine lv_istore (lv' := [(9, .int (h_s (A.getD i hd0))), (8, .int (nI i)), (7, .int we), (6, .int su), (5, .int pl), (4, .int ah), (3, .int (q * wTot A)), (2, .int (wTot A)), (0, .ref (ad L k)), (1, .int q)]) hx hb dX1_quantileAt_51 hl (by decide) rfl (fun ls hl => ?_)
        refine lv_aload_n hx hb dX1_quantileAt_53 rfl (lv_at hl 8 rfl) ?_
        refine g_weights S hK h hk q_57 dX1_quantileAt_54 ?_
        refine lv_iload hx hb dX1_quantileAt_57 (lv_at hl 1 rfl) ?_
        refine q_V1 (ci := 4) S hI hK h [.int (nI i)] (c_X4_at l L σ (kd1_1 hk) (by omega)) (kd1_1 hk) rfl (by decide) q_282 q_224 q_225 q_3 q_226 yd_X4_at rfl ⟨⟨rfl, rfl⟩, ⟨(Nat.le_of_ble_eq_true rfl), (Nat.le_of_ble_eq_true rfl)⟩, Nat.le_refl _, Nat.le_refl _⟩ rfl (Nat.le_of_ble_eq_true rfl) hl.1 dX1_quantileAt_59 (fun H locs h => ?_)
        refine cv_i (show ((σ (k + 1)).getD i 0 : Int32) = h_w (A.getD i hd0) from (hv.w _)) ?_
        refine lv_istore (lv' := [(10, .int (h_w (A.getD i hd0))), (9, .int (h_s (A.getD i hd0))), (8, .int (nI i)), (7, .int we), (6, .int su), (5, .int pl), (4, .int ah), (3, .int (q * wTot A)), (2, .int (wTot A)), (0, .ref (ad L k)), (1, .int q)]) hx hb dX1_quantileAt_62 hl (by decide) rfl (fun ls hl => ?_)
        refine lv_sipush (v := (nI 1000)) hx hb dX1_quantileAt_64 (by decide) ?_
        refine lv_iload hx hb dX1_quantileAt_67 (lv_at hl 6 rfl) ?_
        refine lv_imul hx hb dX1_quantileAt_69 ?_
        refine lv_sipush (v := (nI 500)) hx hb dX1_quantileAt_70 (by decide) ?_
        refine lv_iload hx hb dX1_quantileAt_73 (lv_at hl 0 rfl) ?_
        refine lv_imul hx hb dX1_quantileAt_75 ?_
        refine lv_iadd hx hb dX1_quantileAt_76 ?_
        refine lv_istore (lv' := [(11, .int (((nI 1000) * ah) + ((nI 500) * (h_w (A.getD i hd0))))), (10, .int (h_w (A.getD i hd0))), (9, .int (h_s (A.getD i hd0))), (8, .int (nI i)), (7, .int we), (6, .int su), (5, .int pl), (4, .int ah), (3, .int (q * wTot A)), (2, .int (wTot A)), (0, .ref (ad L k)), (1, .int q)]) hx hb dX1_quantileAt_77 hl (by decide) rfl (fun ls hl => ?_)
        refine lv_iload_n hx hb dX1_quantileAt_79 rfl (lv_at hl 8 rfl) ?_
        refine lv_iload hx hb dX1_quantileAt_80 (lv_at hl 0 rfl) ?_
        refine lv_icmp_gt (tgt := 109) hx hb dX1_quantileAt_82 (by decide) (fun c_82 => ?_) (fun c_82 => ?_)
        · refine lv_iload hx hb dX1_quantileAt_109 (lv_at hl 7 rfl) ?_
          refine lv_iload hx hb dX1_quantileAt_111 (lv_at hl 1 rfl) ?_
          refine lv_iadd hx hb dX1_quantileAt_113 ?_
          refine lv_istore (lv' := [(4, .int (ah + (h_w (A.getD i hd0)))), (11, .int (((nI 1000) * ah) + ((nI 500) * (h_w (A.getD i hd0))))), (10, .int (h_w (A.getD i hd0))), (9, .int (h_s (A.getD i hd0))), (8, .int (nI i)), (7, .int we), (6, .int su), (5, .int pl), (3, .int (q * wTot A)), (2, .int (wTot A)), (0, .ref (ad L k)), (1, .int q)]) hx hb dX1_quantileAt_114 hl (by decide) rfl (fun ls hl => ?_)
          refine lv_iload hx hb dX1_quantileAt_116 (lv_at hl 1 rfl) ?_
          refine lv_istore (lv' := [(5, .int (((nI 1000) * ah) + ((nI 500) * (h_w (A.getD i hd0))))), (4, .int (ah + (h_w (A.getD i hd0)))), (11, .int (((nI 1000) * ah) + ((nI 500) * (h_w (A.getD i hd0))))), (10, .int (h_w (A.getD i hd0))), (9, .int (h_s (A.getD i hd0))), (8, .int (nI i)), (7, .int we), (6, .int su), (3, .int (q * wTot A)), (2, .int (wTot A)), (0, .ref (ad L k)), (1, .int q)]) hx hb dX1_quantileAt_118 hl (by decide) rfl (fun ls hl => ?_)
          refine lv_iload hx hb dX1_quantileAt_120 (lv_at hl 4 rfl) ?_
          refine lv_istore (lv' := [(6, .int (h_s (A.getD i hd0))), (5, .int (((nI 1000) * ah) + ((nI 500) * (h_w (A.getD i hd0))))), (4, .int (ah + (h_w (A.getD i hd0)))), (11, .int (((nI 1000) * ah) + ((nI 500) * (h_w (A.getD i hd0))))), (10, .int (h_w (A.getD i hd0))), (9, .int (h_s (A.getD i hd0))), (8, .int (nI i)), (7, .int we), (3, .int (q * wTot A)), (2, .int (wTot A)), (0, .ref (ad L k)), (1, .int q)]) hx hb dX1_quantileAt_122 hl (by decide) rfl (fun ls hl => ?_)
          refine lv_iload hx hb dX1_quantileAt_124 (lv_at hl 4 rfl) ?_
          refine lv_istore (lv' := [(7, .int (h_w (A.getD i hd0))), (6, .int (h_s (A.getD i hd0))), (5, .int (((nI 1000) * ah) + ((nI 500) * (h_w (A.getD i hd0))))), (4, .int (ah + (h_w (A.getD i hd0)))), (11, .int (((nI 1000) * ah) + ((nI 500) * (h_w (A.getD i hd0))))), (10, .int (h_w (A.getD i hd0))), (9, .int (h_s (A.getD i hd0))), (8, .int (nI i)), (3, .int (q * wTot A)), (2, .int (wTot A)), (0, .ref (ad L k)), (1, .int q)]) hx hb dX1_quantileAt_126 hl (by decide) rfl (fun ls hl => ?_)
          refine lv_iinc (v := (nI (i + 1))) (lv' := [(8, .int (nI (i + 1))), (7, .int (h_w (A.getD i hd0))), (6, .int (h_s (A.getD i hd0))), (5, .int (((nI 1000) * ah) + ((nI 500) * (h_w (A.getD i hd0))))), (4, .int (ah + (h_w (A.getD i hd0)))), (11, .int (((nI 1000) * ah) + ((nI 500) * (h_w (A.getD i hd0))))), (10, .int (h_w (A.getD i hd0))), (9, .int (h_s (A.getD i hd0))), (3, .int (q * wTot A)), (2, .int (wTot A)), (0, .ref (ad L k)), (1, .int q)]) hx hb dX1_quantileAt_128 hl (k := 7) rfl (iinc_1 _) (by decide) rfl (fun ls hl => ?_)
          refine lv_goto (tgt := 33) hx hb dX1_quantileAt_131 (by decide) ?_
          exact ih_33 (i + 1) (ah + (h_w (A.getD i hd0))) (((nI 1000) * ah) + ((nI 500) * (h_w (A.getD i hd0)))) (h_s (A.getD i hd0)) (h_w (A.getD i hd0)) (by omega) (by rw [hq, ed, qScan, if_neg (Int32.not_le.mpr c_82)]) (by omega) _ _ _ h (lv_sub hl [0, 1, 2, 3, 4, 8, 9, 10, 11] rfl)
        · refine lv_iload hx hb dX1_quantileAt_85 (lv_at hl 5 rfl) ?_
          refine lv_i2l (v := su.toInt64) hx hb dX1_quantileAt_87 rfl ?_
          refine lv_iload hx hb dX1_quantileAt_88 (lv_at hl 4 rfl) ?_
          refine lv_i2l (v := we.toInt64) hx hb dX1_quantileAt_90 rfl ?_
          refine lv_iload hx hb dX1_quantileAt_91 (lv_at hl 6 rfl) ?_
          refine lv_i2l (v := pl.toInt64) hx hb dX1_quantileAt_93 rfl ?_
          refine lv_iload hx hb dX1_quantileAt_94 (lv_at hl 2 rfl) ?_
          refine lv_i2l (v := (h_s (A.getD i hd0)).toInt64) hx hb dX1_quantileAt_96 rfl ?_
          refine lv_iload hx hb dX1_quantileAt_97 (lv_at hl 1 rfl) ?_
          refine lv_i2l (v := (h_w (A.getD i hd0)).toInt64) hx hb dX1_quantileAt_99 rfl ?_
          refine lv_iload hx hb dX1_quantileAt_100 (lv_at hl 0 rfl) ?_
          refine lv_i2l (v := (((nI 1000) * ah) + ((nI 500) * (h_w (A.getD i hd0)))).toInt64) hx hb dX1_quantileAt_102 rfl ?_
          refine lv_iload_n hx hb dX1_quantileAt_103 rfl (lv_at hl 8 rfl) ?_
          refine lv_i2l (v := (q * wTot A).toInt64) hx hb dX1_quantileAt_104 rfl ?_
          refine q_S1 S hI hK h [.long su.toInt64, .long we.toInt64, .long pl.toInt64, .long ((h_s (A.getD i hd0)).toInt64), .long ((h_w (A.getD i hd0)).toInt64), .long ((((nI 1000) * ah) + ((nI 500) * (h_w (A.getD i hd0)))).toInt64), .long ((q * wTot A).toInt64)] (c_X1_between l L σ su.toInt64 we.toInt64 pl.toInt64 ((h_s (A.getD i hd0)).toInt64) ((h_w (A.getD i hd0)).toInt64) ((((nI 1000) * ah) + ((nI 500) * (h_w (A.getD i hd0)))).toInt64) ((q * wTot A).toInt64)) q_463 q_464 q_6 q_465 yd_X1_between rfl ⟨⟨rfl, rfl⟩, ⟨(Nat.le_of_ble_eq_true rfl), (Nat.le_of_ble_eq_true rfl)⟩, Nat.le_refl _, Nat.le_refl _⟩ rfl (Nat.le_of_ble_eq_true rfl) hl.1 dX1_quantileAt_105 (fun H locs h => ?_)
          exact e_i S hK h hr hlk dX1_quantileAt_108 (fin_p hp (by rw [hq, ed, qScan, if_pos (Int32.not_lt.mp c_82)]) rfl)
  exact LP_33 _ 0 (nI 0) (nI 0) (imin (A.map h_l) A.length) (nI 1) (by omega) rfl (Nat.lt_succ_self _) _ _ _ h (lv_sub hl [0, 1, 2, 3, 4, 5, 6, 7, 8] rfl)

abbrev rX1_greatestQAtMost : Room := { frames := 3, cells := 0, slots := 0, locals := 97 }
theorem yd_X1_greatestQAtMost : ydV yX1_greatestQAtMost RX1 1 := ⟨rfl, by decide +kernel, by decide +kernel, by decide +kernel⟩
set_option maxHeartbeats 4000000 in
set_option maxRecDepth 100000 in
theorem c_X1_greatestQAtMost (l : Launch) (L : Lay) (σ : St) {k : Nat} {A : List Hp} (hk : kd k = 1) (hv : HV σ k A) (v : Int32) : Mf l L yX1_greatestQAtMost (Cond.code yX1_greatestQAtMost cX1_greatestQAtMost 4 (some FieldType.int) :: qA) rX1_greatestQAtMost [.ref (ad L k), .int v] σ (some (.int (rkS A v 10 (-1)))) σ := by
  refine Mf.ofW (by decide) (Nat.le_of_ble_eq_true rfl) ?_
  intro p e s m args below meth c ls post hp hI S hr hlk hK h hl
  have hx := S.1
  have hb := S.2.1
  have hok := h.ok
  have hl : lv_has ls 4 [(0, .ref (ad L k)), (1, .int v)] := hl
  refine lv_iconst (v := (-1)) hx hb dX1_greatestQAtMost_0 (by decide) ?_
  refine lv_istore_n (lv' := [(2, .int (-1)), (0, .ref (ad L k)), (1, .int v)]) hx hb dX1_greatestQAtMost_1 rfl hl (by decide) rfl (fun ls hl => ?_)
  refine lv_sipush (v := (nI 512)) hx hb dX1_greatestQAtMost_2 (by decide) ?_
  refine lv_istore_n (lv' := [(3, .int (nI 512)), (2, .int (-1)), (0, .ref (ad L k)), (1, .int v)]) hx hb dX1_greatestQAtMost_5 rfl hl (by decide) rfl (fun ls hl => ?_)
  have LP_6 : ∀ (n_6 : Nat) (j : Nat) (st : Nat) (q : Int32), (j ≤ 10) → (st = pw j) → (rkS A v j q = rkS A v 10 (-1)) → j < n_6 → ∀ (H : Heap) (locs : List Loc) (ls : Array Slot), Hd L s.heap H σ locs → lv_has ls 4 [(3, .int (nI st)), (2, .int q), (0, .ref (ad L k)), (1, .int v)] → W p l e rX1_greatestQAtMost s m args below meth c H locs 0 0 (MQ below (Qg post (bs L) (Aw L)) args s 0 0 (Aw L)) (F0 m 6 ls []) := by
    intro n_6
    induction n_6 with
    | zero => intro j st q; intros; omega
    | succ n_6 ih_6 =>
      intro j st q hj hst hq hm_6 H locs ls h hl
      have hok := h.ok
      have hst2 : st < 2 ^ 31 := by rcases j with _ | j; (rw [hst]; decide); (have := pw_le j (by omega); rw [hst]; show 2 ^ j < _; omega)
      refine lv_iload_n hx hb dX1_greatestQAtMost_6 rfl (lv_at hl 0 rfl) ?_
      refine b_if_le (tgt := 41) hx hb dX1_greatestQAtMost_7 (by decide) hst2 (fun c_7 => ?_) (fun c_7 => ?_)
      · have e4 : j = 0 := by rcases j with _ | j; rfl; (rw [hst] at c_7; have : 0 < 2 ^ j := Nat.two_pow_pos j; exact absurd c_7 (by show ¬ 2 ^ j = 0; omega))
        refine lv_iload_n hx hb dX1_greatestQAtMost_41 rfl (lv_at hl 1 rfl) ?_
        exact e_i S hK h hr hlk dX1_greatestQAtMost_42 (fin_p hp (by rw [← hq, e4]; rfl) rfl)
      · obtain ⟨j1, rfl⟩ : ∃ j1, j = j1 + 1 := by rcases j with _ | j; (rw [hst] at c_7; exact absurd c_7 (by decide)); exact ⟨j, rfl⟩
        have hst3 : st = 2 ^ j1 := hst
        subst hst3
        have hpw := pw_le j1 (by omega)
        have CT_34 : ∀ (q2 : Int32) (H : Heap) (locs : List Loc) (ls : Array Slot), (rkS A v j1 q2 = rkS A v 10 (-1)) → Hd L s.heap H σ locs → lv_has ls 4 [(3, .int (nI (2 ^ j1))), (2, .int q2), (0, .ref (ad L k)), (1, .int v)] → W p l e rX1_greatestQAtMost s m args below meth c H locs 0 0 (MQ below (Qg post (bs L) (Aw L)) args s 0 0 (Aw L)) (F0 m 34 ls []) := by
          intro q2 H locs ls hq2 h hl
          have hok := h.ok
          refine lv_iload_n hx hb dX1_greatestQAtMost_34 rfl (lv_at hl 0 rfl) ?_
          refine lv_iconst (v := (nI 2)) hx hb dX1_greatestQAtMost_35 (by decide) ?_
          refine a_idiv hx hb dX1_greatestQAtMost_36 (by omega) (by omega) (by omega) ?_
          refine lv_istore_n (lv' := [(3, .int (nI ((2 ^ j1) / 2))), (2, .int q2), (0, .ref (ad L k)), (1, .int v)]) hx hb dX1_greatestQAtMost_37 rfl hl (by decide) rfl (fun ls hl => ?_)
          refine lv_goto (tgt := 6) hx hb dX1_greatestQAtMost_38 (by decide) ?_
          exact ih_6 j1 ((2 ^ j1) / 2) q2 (by omega) (pw_half j1) hq2 (by omega) _ _ _ h (lv_sub hl [0, 1, 2, 3] rfl)
        refine lv_iload_n hx hb dX1_greatestQAtMost_10 rfl (lv_at hl 1 rfl) ?_
        refine lv_iload_n hx hb dX1_greatestQAtMost_11 rfl (lv_at hl 0 rfl) ?_
        refine lv_iadd hx hb dX1_greatestQAtMost_12 ?_
        refine lv_sipush (v := (nI 1000)) hx hb dX1_greatestQAtMost_13 (by decide) ?_
        refine lv_icmp_gt (tgt := 34) hx hb dX1_greatestQAtMost_16 (by decide) (fun c_16 => ?_) (fun c_16 => ?_)
        · exact CT_34 q _ _ _ (by rw [← hq, rkS, if_neg (fun z => Int32.not_le.mpr c_16 z.1)]) h (lv_sub hl [0, 1, 2, 3] rfl)
        · refine lv_aload_n hx hb dX1_greatestQAtMost_19 rfl (lv_at hl 2 rfl) ?_
          refine lv_iload_n hx hb dX1_greatestQAtMost_20 rfl (lv_at hl 1 rfl) ?_
          refine lv_iload_n hx hb dX1_greatestQAtMost_21 rfl (lv_at hl 0 rfl) ?_
          refine lv_iadd hx hb dX1_greatestQAtMost_22 ?_
          refine q_V1 (ci := 1) S hI hK h [.int (q + (nI (2 ^ j1)))] (c_X1_quantileAt l L σ hk hv  (q + (nI (2 ^ j1)))) hk rfl (by decide) q_496 q_459 q_460 q_6 q_461 yd_X1_quantileAt rfl ⟨⟨rfl, rfl⟩, ⟨(Nat.le_of_ble_eq_true rfl), (Nat.le_of_ble_eq_true rfl)⟩, Nat.le_refl _, Nat.le_refl _⟩ rfl (Nat.le_of_ble_eq_true rfl) hl.1 dX1_greatestQAtMost_23 (fun H locs h => ?_)
          refine lv_iload_n hx hb dX1_greatestQAtMost_26 rfl (lv_at hl 3 rfl) ?_
          refine lv_icmp_gt (tgt := 34) hx hb dX1_greatestQAtMost_27 (by decide) (fun c_27 => ?_) (fun c_27 => ?_)
          · exact CT_34 q _ _ _ (by rw [← hq, rkS, if_neg (fun z => Int32.not_le.mpr c_27 z.2)]) h (lv_sub hl [0, 1, 2, 3] rfl)
          · refine lv_iload_n hx hb dX1_greatestQAtMost_30 rfl (lv_at hl 1 rfl) ?_
            refine lv_iload_n hx hb dX1_greatestQAtMost_31 rfl (lv_at hl 0 rfl) ?_
            refine lv_iadd hx hb dX1_greatestQAtMost_32 ?_
            refine lv_istore_n (lv' := [(2, .int (q + (nI (2 ^ j1)))), (3, .int (nI (2 ^ j1))), (0, .ref (ad L k)), (1, .int v)]) hx hb dX1_greatestQAtMost_33 rfl hl (by decide) rfl (fun ls hl => ?_)
            exact CT_34 (q + (nI (2 ^ j1))) _ _ _ (by rw [← hq, rkS, if_pos ⟨Int32.not_lt.mp c_16, Int32.not_lt.mp c_27⟩]) h (lv_sub hl [1, 0, 2, 3] rfl)
  exact LP_6 _ 10 512 (-1) (by omega) rfl rfl (Nat.lt_succ_self _) _ _ _ h (lv_sub hl [0, 1, 2, 3] rfl)
end
section
/-! a digest: heaps, buffer, values, how often packed -/
def DV (σ : St) (d : Nat) (A : List Hp) (B V : List Int32) (p : Int32) : Prop := HV σ (d+1) A ∧ σ (d+10) = B ∧ σ (d+12) = V ∧ σ d = [p]
def dset (σ : St) (d : Nat) (A : List Hp) (B V : List Int32) (p : Int32) : St := fun k => if k = d then [p] else if k = d+10 then B else if k = d+12 then V else hset σ (d+1) A k
theorem HV.congr {σ σ' : St} {h : Nat} {A : List Hp} (hv : HV σ h A) (e : ∀ j, j = h+1 ∨ j = h+3 ∨ j = h+5 ∨ j = h+7 → σ' j = σ j) : HV σ' h A :=
  ⟨(e _ (Or.inl rfl)).trans hv.1, (e _ (Or.inr (Or.inl rfl))).trans hv.2.1, (e _ (Or.inr (Or.inr (Or.inl rfl)))).trans hv.2.2.1, (e _ (Or.inr (Or.inr (Or.inr rfl)))).trans hv.2.2.2⟩
theorem HV.up {σ : St} {h k : Nat} {A : List Hp} {l : List Int32} (hv : HV σ h A) (n : k < h ∨ k = h ∨ k = h+2 ∨ k = h+4 ∨ k = h+6 ∨ h+8 ≤ k) : HV (up σ k l) h A := hv.congr (fun j hj => up_n (by omega))
theorem HV_hset_ne {σ : St} {h h2 : Nat} {A X : List Hp} (hv : HV σ h A) (n : h + 9 ≤ h2 ∨ h2 + 9 ≤ h) : HV (hset σ h2 X) h A := hv.congr (fun j hj => hset_n (by omega) (by omega) (by omega) (by omega))
theorem dset_d {σ : St} {d : Nat} {A : List Hp} {B V : List Int32} {p : Int32} : dset σ d A B V p d = [p] := by simp [dset]
theorem dset_b {σ : St} {d : Nat} {A : List Hp} {B V : List Int32} {p : Int32} : dset σ d A B V p (d+10) = B := by simp [dset]
theorem dset_v {σ : St} {d : Nat} {A : List Hp} {B V : List Int32} {p : Int32} : dset σ d A B V p (d+12) = V := by simp [dset]
theorem dset_h {σ : St} {d j : Nat} {A : List Hp} {B V : List Int32} {p : Int32} (h1 : j ≠ d) (h2 : j ≠ d+10) (h3 : j ≠ d+12) : dset σ d A B V p j = hset σ (d+1) A j := by simp [dset, h1, h2, h3]
theorem DV.dset {σ : St} {d : Nat} {A : List Hp} {B V : List Int32} {p : Int32} : DV (dset σ d A B V p) d A B V p :=
  ⟨HV.hset.congr (fun j hj => dset_h (by omega) (by omega) (by omega)), dset_b, dset_v, dset_d⟩
theorem dset_n {σ : St} {d j : Nat} {A : List Hp} {B V : List Int32} {p : Int32} (h : j < d ∨ d + 13 ≤ j) : dset σ d A B V p j = σ j := by
  rw [dset_h (by omega) (by omega) (by omega), hset_n (by omega) (by omega) (by omega) (by omega)]
theorem dset_of {σ σ' : St} {d : Nat} {A : List Hp} {B V : List Int32} {p : Int32} (hv : DV σ' d A B V p) (ho : ∀ k, k ≠ d → k ≠ d+2 → k ≠ d+4 → k ≠ d+6 → k ≠ d+8 → k ≠ d+10 → k ≠ d+12 → σ' k = σ k) : σ' = dset σ d A B V p := by
  have key : σ' = hset σ' (d+1) A := (hset_id hv.1).symm
  funext k
  by_cases h0 : k = d
  · rw [h0, dset_d, hv.2.2.2]
  by_cases h10 : k = d+10
  · rw [h10, dset_b, hv.2.1]
  by_cases h12 : k = d+12
  · rw [h12, dset_v, hv.2.2.1]
  rw [dset_h h0 h10 h12]
  by_cases a : k = d+1+1
  · rw [a, hset_1]; exact hv.1.1
  by_cases b : k = d+1+3
  · rw [b, hset_3]; exact hv.1.2.1
  by_cases c : k = d+1+5
  · rw [c, hset_5]; exact hv.1.2.2.1
  by_cases e : k = d+1+7
  · rw [e, hset_7]; exact hv.1.2.2.2
  rw [hset_n a b c e]
  exact ho k h0 (by omega) (by omega) (by omega) (by omega) h10 h12
theorem dset_o {σ : St} {d k : Nat} {A : List Hp} {B V : List Int32} {p : Int32} (a : k ≠ d) (b : k ≠ d+2) (c : k ≠ d+4) (e : k ≠ d+6) (f : k ≠ d+8) (g : k ≠ d+10) (h : k ≠ d+12) : dset σ d A B V p k = σ k := by
  rw [dset_h a g h, hset_n (by omega) (by omega) (by omega) (by omega)]
theorem dset_id {σ : St} {d : Nat} {A : List Hp} {B V : List Int32} {p : Int32} (hv : DV σ d A B V p) : dset σ d A B V p = σ := (dset_of hv (fun _ _ _ _ _ _ _ _ => rfl)).symm
theorem dset_dset {σ : St} {d : Nat} {A A' : List Hp} {B B' V V' : List Int32} {p p' : Int32} : dset (dset σ d A B V p) d A' B' V' p' = dset σ d A' B' V' p' :=
  dset_of DV.dset (fun k a b c e f g h => by rw [dset_h a g h, hset_n (by omega) (by omega) (by omega) (by omega), dset_h a g h, hset_n (by omega) (by omega) (by omega) (by omega)])
theorem DV.congr {σ σ' : St} {d : Nat} {A : List Hp} {B V : List Int32} {p : Int32} (hv : DV σ d A B V p) (e : ∀ j, d ≤ j → j < d + 13 → σ' j = σ j) : DV σ' d A B V p :=
  ⟨hv.1.congr (fun j hj => e j (by omega) (by omega)), (e _ (by omega) (by omega)).trans hv.2.1, (e _ (by omega) (by omega)).trans hv.2.2.1, (e _ (by omega) (by omega)).trans hv.2.2.2⟩
theorem DV_ne {σ : St} {d d2 : Nat} {A A2 : List Hp} {B V B2 V2 : List Int32} {p p2 : Int32} (hv : DV σ d A B V p) (n : d + 14 ≤ d2 ∨ d2 + 14 ≤ d) : DV (dset σ d2 A2 B2 V2 p2) d A B V p := hv.congr (fun j h1 h2 => dset_n (by omega))
theorem kd00 {h h2 : Nat} (a : kd h = 0) (b : kd h2 = 0) (n : h ≠ h2) : h + 14 ≤ h2 ∨ h2 + 14 ≤ h := by
  have key : ∀ i, i < 245 → kd i = 0 → ∀ d, d < 14 → d ≠ 0 → kd (i + d) ≠ 0 := by decide +kernel
  rcases Nat.lt_or_ge h2 h with q | q
  · rcases Nat.lt_or_ge h (h2 + 14) with r | r
    · have := key h2 (kd_of b) b (h - h2) (by omega) (by omega)
      rw [show h2 + (h - h2) = h by omega] at this
      exact absurd a this
    · exact Or.inr r
  · rcases Nat.lt_or_ge h2 (h + 14) with r | r
    · have := key h (kd_of a) a (h2 - h) (by omega) (by omega)
      rw [show h + (h2 - h) = h2 by omega] at this
      exact absurd b this
    · exact Or.inl r
theorem kd0_le {d : Nat} (a : kd d = 0) : d ≤ 211 := (show ∀ d, d < 245 → kd d = 0 → d ≤ 211 from by decide +kernel) d (kd_of a) a
def dW (A : List Hp) (B : List Int32) : Int32 := wTot A + nI B.length
def dSum (A : List Hp) (B : List Int32) : Int32 := isum (A.map h_s) A.length + isum B B.length
def dLeast (A : List Hp) (B : List Int32) : Int32 := if imin B B.length < imin (A.map h_l) A.length then imin B B.length else imin (A.map h_l) A.length
def dGreatest (A : List Hp) (B : List Int32) : Int32 := if imax (A.map h_g) A.length < imax B B.length then imax B B.length else imax (A.map h_g) A.length
/-- what a digest is with one more value -/
abbrev Dg : Type := List Hp × List Int32 × List Int32 × Int32
def pkD (f : Int32) (D : Dg) : Dg := (packL f (D.1 ++ D.2.1.map hunit), [], D.2.2.1, D.2.2.2 + nI 1)
def rcvD (s0 s1 : Int32) (D : Dg) (v : Int32) : Dg :=
  let E := if s1 ≤ nI D.2.1.length then pkD s0 D else D
  (E.1, E.2.1 ++ [v], ins E.2.2.1 v, E.2.2.2)
abbrev DX (σ : St) (d : Nat) (D : Dg) : Prop := DV σ d D.1 D.2.1 D.2.2.1 D.2.2.2
abbrev dx (σ : St) (d : Nat) (D : Dg) : St := dset σ d D.1 D.2.1 D.2.2.1 D.2.2.2
def toD (f : Int32) (D2 D : Dg) : Dg := ((packL f ((pkD f D).1 ++ (pkD f D2).1)), [], D2.2.2.1.foldl ins D.2.2.1, D.2.2.2 + nI 1 + nI 1)
theorem foldl_ins_len : ∀ (W V : List Int32), (W.foldl ins V).length = V.length + W.length
  | [], V => rfl
  | x :: W, V => by rw [List.foldl_cons, foldl_ins_len W, ins_len, List.length_cons]; omega
theorem mg_len {f tot : Int32} : ∀ (r : List Hp) (a : Int32) (o : Hp), (mg f tot a o r).length ≤ r.length + 1
  | [], _, _ => Nat.le_refl _
  | x :: r, a, o => by
    unfold mg
    split
    · have := mg_len (f := f) (tot := tot) r a (unI o x)
      rw [List.length_cons]; omega
    · have := mg_len (f := f) (tot := tot) r (a + h_w o) x
      rw [List.length_cons, List.length_cons]; omega
theorem ptog_len {f : Int32} : ∀ (A : List Hp), (ptog f A).length ≤ A.length
  | [] => Nat.le_refl _
  | x :: r => mg_len r _ x
theorem packL_len {f : Int32} {A : List Hp} : (packL f A).length ≤ A.length := by
  have := ptog_len (f := f) (order A)
  rw [order, oSort_len] at this
  exact this
end
section
theorem rcv_b {n : Nat} {s1 : Int32} (h : nI n < s1) (h2 : s1 ≤ 20) (h3 : n ≤ 20) : n < 20 := by
  have a := Int32.lt_iff_toInt_lt.mp h
  have b := Int32.le_iff_toInt_le.mp h2
  rw [nI_toInt (by omega)] at a
  rw [show (20 : Int32).toInt = 20 from by decide] at b
  omega
abbrev rX7_trueIndex : Room := { frames := 0, cells := 0, slots := 0, locals := 0 }
theorem yd_X7_trueIndex : ydV yX7_trueIndex RX7 2 := ⟨rfl, by decide +kernel, by decide +kernel, by decide +kernel⟩
set_option maxHeartbeats 4000000 in
set_option maxRecDepth 100000 in
theorem c_X7_trueIndex (l : Launch) (L : Lay) (σ : St) (q w : Nat) (hq : q ≤ 1000) (h1 : 1 ≤ w) (hw : w ≤ 200) : Mf l L yX7_trueIndex (Cond.code yX7_trueIndex cX7_trueIndex 2 (some FieldType.int) :: qA) rX7_trueIndex [.int (nI q), .int (nI w)] σ (some (.int (nI (q * (w - 1) / 1000)))) σ := by
  refine Mf.ofW (by decide) (Nat.le_of_ble_eq_true rfl) ?_
  intro p e s m args below meth c ls post hp hI S hr hlk hK h hl
  have hx := S.1
  have hb := S.2.1
  have hok := h.ok
  have hl : lv_has ls 2 [(0, .int (nI q)), (1, .int (nI w))] := hl
  have hm : q * (w - 1) ≤ 1000 * 199 := Nat.mul_le_mul hq (by omega)
  refine lv_iload_n hx hb dX7_trueIndex_0 rfl (lv_at hl 0 rfl) ?_
  refine lv_iload_n hx hb dX7_trueIndex_1 rfl (lv_at hl 1 rfl) ?_
  refine lv_iconst (v := (nI 1)) hx hb dX7_trueIndex_2 (by decide) ?_
  refine a_isub hx hb dX7_trueIndex_3 (by omega) ?_
  refine a_imul hx hb dX7_trueIndex_4 ?_
  refine lv_sipush (v := (nI 1000)) hx hb dX7_trueIndex_5 (by decide) ?_
  refine a_idiv hx hb dX7_trueIndex_8 (by omega) (by omega) (by omega) ?_
  exact e_i S hK h hr hlk dX7_trueIndex_9 hp

abbrev rX0_weight : Room := { frames := 2, cells := 0, slots := 0, locals := 43 }
theorem yd_X0_weight : ydV yX0_weight RX0 0 := ⟨rfl, by decide +kernel, by decide +kernel, by decide +kernel⟩
set_option maxHeartbeats 4000000 in
set_option maxRecDepth 100000 in
theorem c_X0_weight (l : Launch) (L : Lay) (σ : St) {d : Nat} {A : List Hp} {B V : List Int32} {p0 : Int32} (hk : kd d = 0) (hv : DV σ d A B V p0) : Mf l L yX0_weight (Cond.code yX0_weight cX0_weight 1 (some FieldType.int) :: qA) rX0_weight [.ref (ad L d)] σ (some (.int (dW A B))) σ := by
  refine Mf.ofW (by decide) (Nat.le_of_ble_eq_true rfl) ?_
  intro p e s m args below meth c ls post hp hI S hr hlk hK h hl
  have hx := S.1
  have hb := S.2.1
  have hok := h.ok
  have hl : lv_has ls 1 [(0, .ref (ad L d))] := hl
  obtain ⟨hvh, eb, ev, ep⟩ := id hv
  refine lv_aload_n hx hb dX0_weight_0 rfl (lv_at hl 0 rfl) ?_
  refine g_heaps S hK h hk q_80 dX0_weight_1 ?_
  refine g_weights S hK h (kd0_heaps hk) q_58 dX0_weight_4 ?_
  refine q_V1 (ci := 4) S hI hK h [] (c_X4_total l L σ (kd1_1 (kd0_heaps hk))) (kd1_1 (kd0_heaps hk)) rfl (by decide) q_219 q_220 q_221 q_3 q_222 yd_X4_total rfl ⟨⟨rfl, rfl⟩, ⟨(Nat.le_of_ble_eq_true rfl), (Nat.le_of_ble_eq_true rfl)⟩, Nat.le_refl _, Nat.le_refl _⟩ rfl (Nat.le_of_ble_eq_true rfl) hl.1 dX0_weight_7 (fun H locs h => ?_)
  refine cv_i (show (isum (σ (d + 1 + 1)) (σ (d + 1 + 1)).length : Int32) = wTot A from hvh.tot) ?_
  refine lv_aload_n hx hb dX0_weight_10 rfl (lv_at hl 0 rfl) ?_
  refine g_buffer S hK h hk q_83 dX0_weight_11 ?_
  refine q_V1 (ci := 4) S hI hK h [] (c_X4_length l L σ (kd0_buf hk)) (kd0_buf hk) rfl (by decide) q_227 q_228 q_229 q_3 q_230 yd_X4_length rfl ⟨⟨rfl, rfl⟩, ⟨(Nat.le_of_ble_eq_true rfl), (Nat.le_of_ble_eq_true rfl)⟩, Nat.le_refl _, Nat.le_refl _⟩ rfl (Nat.le_of_ble_eq_true rfl) hl.1 dX0_weight_14 (fun H locs h => ?_)
  refine cv_i (show (nI ((σ (d + 10)).length) : Int32) = nI B.length from (by rw [eb])) ?_
  refine lv_iadd hx hb dX0_weight_17 ?_
  exact e_i S hK h hr hlk dX0_weight_18 hp

abbrev rX0_sum : Room := { frames := 2, cells := 0, slots := 0, locals := 43 }
theorem yd_X0_sum : ydV yX0_sum RX0 0 := ⟨rfl, by decide +kernel, by decide +kernel, by decide +kernel⟩
set_option maxHeartbeats 4000000 in
set_option maxRecDepth 100000 in
theorem c_X0_sum (l : Launch) (L : Lay) (σ : St) {d : Nat} {A : List Hp} {B V : List Int32} {p0 : Int32} (hk : kd d = 0) (hv : DV σ d A B V p0) : Mf l L yX0_sum (Cond.code yX0_sum cX0_sum 1 (some FieldType.int) :: qA) rX0_sum [.ref (ad L d)] σ (some (.int (dSum A B))) σ := by
  refine Mf.ofW (by decide) (Nat.le_of_ble_eq_true rfl) ?_
  intro p e s m args below meth c ls post hp hI S hr hlk hK h hl
  have hx := S.1
  have hb := S.2.1
  have hok := h.ok
  have hl : lv_has ls 1 [(0, .ref (ad L d))] := hl
  obtain ⟨hvh, eb, ev, ep⟩ := id hv
  refine lv_aload_n hx hb dX0_sum_0 rfl (lv_at hl 0 rfl) ?_
  refine g_heaps S hK h hk q_80 dX0_sum_1 ?_
  refine g_sums S hK h (kd0_heaps hk) q_61 dX0_sum_4 ?_
  refine q_V1 (ci := 4) S hI hK h [] (c_X4_total l L σ (kd1_3 (kd0_heaps hk))) (kd1_3 (kd0_heaps hk)) rfl (by decide) q_219 q_220 q_221 q_3 q_222 yd_X4_total rfl ⟨⟨rfl, rfl⟩, ⟨(Nat.le_of_ble_eq_true rfl), (Nat.le_of_ble_eq_true rfl)⟩, Nat.le_refl _, Nat.le_refl _⟩ rfl (Nat.le_of_ble_eq_true rfl) hl.1 dX0_sum_7 (fun H locs h => ?_)
  refine cv_i (show (isum (σ (d + 1 + 3)) (σ (d + 1 + 3)).length : Int32) = isum (A.map h_s) A.length from (by rw [hvh.2.1, List.length_map])) ?_
  refine lv_aload_n hx hb dX0_sum_10 rfl (lv_at hl 0 rfl) ?_
  refine g_buffer S hK h hk q_83 dX0_sum_11 ?_
  refine q_V1 (ci := 4) S hI hK h [] (c_X4_total l L σ (kd0_buf hk)) (kd0_buf hk) rfl (by decide) q_219 q_220 q_221 q_3 q_222 yd_X4_total rfl ⟨⟨rfl, rfl⟩, ⟨(Nat.le_of_ble_eq_true rfl), (Nat.le_of_ble_eq_true rfl)⟩, Nat.le_refl _, Nat.le_refl _⟩ rfl (Nat.le_of_ble_eq_true rfl) hl.1 dX0_sum_14 (fun H locs h => ?_)
  refine cv_i (show (isum (σ (d + 10)) (σ (d + 10)).length : Int32) = isum B B.length from (by rw [eb])) ?_
  refine lv_iadd hx hb dX0_sum_17 ?_
  exact e_i S hK h hr hlk dX0_sum_18 hp

abbrev rX0_least : Room := { frames := 2, cells := 0, slots := 0, locals := 43 }
theorem yd_X0_least : ydV yX0_least RX0 0 := ⟨rfl, by decide +kernel, by decide +kernel, by decide +kernel⟩
set_option maxHeartbeats 4000000 in
set_option maxRecDepth 100000 in
theorem c_X0_least (l : Launch) (L : Lay) (σ : St) {d : Nat} {A : List Hp} {B V : List Int32} {p0 : Int32} (hk : kd d = 0) (hv : DV σ d A B V p0) : Mf l L yX0_least (Cond.code yX0_least cX0_least 1 (some FieldType.int) :: qA) rX0_least [.ref (ad L d)] σ (some (.int (dLeast A B))) σ := by
  refine Mf.ofW (by decide) (Nat.le_of_ble_eq_true rfl) ?_
  intro p e s m args below meth c ls post hp hI S hr hlk hK h hl
  have hx := S.1
  have hb := S.2.1
  have hok := h.ok
  have hl : lv_has ls 1 [(0, .ref (ad L d))] := hl
  obtain ⟨hvh, eb, ev, ep⟩ := id hv
  refine lv_aload_n hx hb dX0_least_0 rfl (lv_at hl 0 rfl) ?_
  refine g_heaps S hK h hk q_80 dX0_least_1 ?_
  refine g_leasts S hK h (kd0_heaps hk) q_64 dX0_least_4 ?_
  refine q_V1 (ci := 4) S hI hK h [] (c_X4_least l L σ (kd1_5 (kd0_heaps hk))) (kd1_5 (kd0_heaps hk)) rfl (by decide) q_425 q_426 q_427 q_3 q_428 yd_X4_least rfl ⟨⟨rfl, rfl⟩, ⟨(Nat.le_of_ble_eq_true rfl), (Nat.le_of_ble_eq_true rfl)⟩, Nat.le_refl _, Nat.le_refl _⟩ rfl (Nat.le_of_ble_eq_true rfl) hl.1 dX0_least_7 (fun H locs h => ?_)
  refine cv_i (show (imin (σ (d + 1 + 5)) (σ (d + 1 + 5)).length : Int32) = imin (A.map h_l) A.length from (by rw [hvh.2.2.1, List.length_map])) ?_
  refine lv_aload_n hx hb dX0_least_10 rfl (lv_at hl 0 rfl) ?_
  refine g_buffer S hK h hk q_83 dX0_least_11 ?_
  refine q_V1 (ci := 4) S hI hK h [] (c_X4_least l L σ (kd0_buf hk)) (kd0_buf hk) rfl (by decide) q_425 q_426 q_427 q_3 q_428 yd_X4_least rfl ⟨⟨rfl, rfl⟩, ⟨(Nat.le_of_ble_eq_true rfl), (Nat.le_of_ble_eq_true rfl)⟩, Nat.le_refl _, Nat.le_refl _⟩ rfl (Nat.le_of_ble_eq_true rfl) hl.1 dX0_least_14 (fun H locs h => ?_)
  refine cv_i (show (imin (σ (d + 10)) (σ (d + 10)).length : Int32) = imin B B.length from (by rw [eb])) ?_
  refine va_mmin hx hb (S.2.2.1.trans hl.1.symm) S.2.2.2.1 (S.2.2.2.2 _ q_430) (S.2.2.2.2 _ q_253) (S.2.2.2.2 _ q_4) (S.2.2.2.2 _ q_254) (Nat.le_of_ble_eq_true rfl) (Nat.le_of_ble_eq_true rfl) (Nat.zero_le _) (Nat.zero_le _) dX0_least_17 ?_
  exact e_i S hK h hr hlk dX0_least_20 hp

abbrev rX0_greatest : Room := { frames := 2, cells := 0, slots := 0, locals := 43 }
theorem yd_X0_greatest : ydV yX0_greatest RX0 0 := ⟨rfl, by decide +kernel, by decide +kernel, by decide +kernel⟩
set_option maxHeartbeats 4000000 in
set_option maxRecDepth 100000 in
theorem c_X0_greatest (l : Launch) (L : Lay) (σ : St) {d : Nat} {A : List Hp} {B V : List Int32} {p0 : Int32} (hk : kd d = 0) (hv : DV σ d A B V p0) : Mf l L yX0_greatest (Cond.code yX0_greatest cX0_greatest 1 (some FieldType.int) :: qA) rX0_greatest [.ref (ad L d)] σ (some (.int (dGreatest A B))) σ := by
  refine Mf.ofW (by decide) (Nat.le_of_ble_eq_true rfl) ?_
  intro p e s m args below meth c ls post hp hI S hr hlk hK h hl
  have hx := S.1
  have hb := S.2.1
  have hok := h.ok
  have hl : lv_has ls 1 [(0, .ref (ad L d))] := hl
  obtain ⟨hvh, eb, ev, ep⟩ := id hv
  refine lv_aload_n hx hb dX0_greatest_0 rfl (lv_at hl 0 rfl) ?_
  refine g_heaps S hK h hk q_80 dX0_greatest_1 ?_
  refine g_greatests S hK h (kd0_heaps hk) q_67 dX0_greatest_4 ?_
  refine q_V1 (ci := 4) S hI hK h [] (c_X4_greatest l L σ (kd1_7 (kd0_heaps hk))) (kd1_7 (kd0_heaps hk)) rfl (by decide) q_435 q_436 q_437 q_3 q_438 yd_X4_greatest rfl ⟨⟨rfl, rfl⟩, ⟨(Nat.le_of_ble_eq_true rfl), (Nat.le_of_ble_eq_true rfl)⟩, Nat.le_refl _, Nat.le_refl _⟩ rfl (Nat.le_of_ble_eq_true rfl) hl.1 dX0_greatest_7 (fun H locs h => ?_)
  refine cv_i (show (imax (σ (d + 1 + 7)) (σ (d + 1 + 7)).length : Int32) = imax (A.map h_g) A.length from (by rw [hvh.2.2.2, List.length_map])) ?_
  refine lv_aload_n hx hb dX0_greatest_10 rfl (lv_at hl 0 rfl) ?_
  refine g_buffer S hK h hk q_83 dX0_greatest_11 ?_
  refine q_V1 (ci := 4) S hI hK h [] (c_X4_greatest l L σ (kd0_buf hk)) (kd0_buf hk) rfl (by decide) q_435 q_436 q_437 q_3 q_438 yd_X4_greatest rfl ⟨⟨rfl, rfl⟩, ⟨(Nat.le_of_ble_eq_true rfl), (Nat.le_of_ble_eq_true rfl)⟩, Nat.le_refl _, Nat.le_refl _⟩ rfl (Nat.le_of_ble_eq_true rfl) hl.1 dX0_greatest_14 (fun H locs h => ?_)
  refine cv_i (show (imax (σ (d + 10)) (σ (d + 10)).length : Int32) = imax B B.length from (by rw [eb])) ?_
  refine va_mmax hx hb (S.2.2.1.trans hl.1.symm) S.2.2.2.1 (S.2.2.2.2 _ q_440) (S.2.2.2.2 _ q_33) (S.2.2.2.2 _ q_4) (S.2.2.2.2 _ q_34) (Nat.le_of_ble_eq_true rfl) (Nat.le_of_ble_eq_true rfl) (Nat.zero_le _) (Nat.zero_le _) dX0_greatest_17 ?_
  exact e_i S hK h hr hlk dX0_greatest_20 hp

abbrev rX0_trueQuantileAt : Room := { frames := 1, cells := 0, slots := 0, locals := 21 }
theorem yd_X0_trueQuantileAt : ydV yX0_trueQuantileAt RX0 1 := ⟨rfl, by decide +kernel, by decide +kernel, by decide +kernel⟩
set_option maxHeartbeats 4000000 in
set_option maxRecDepth 100000 in
theorem c_X0_trueQuantileAt (l : Launch) (L : Lay) (σ : St) {d : Nat} {A : List Hp} {B V : List Int32} {p0 : Int32} (hk : kd d = 0) (hv : DV σ d A B V p0) {q : Nat} (hq : q ≤ 1000) (h1 : 1 ≤ V.length) : Mf l L yX0_trueQuantileAt (Cond.code yX0_trueQuantileAt cX0_trueQuantileAt 2 (some FieldType.int) :: qA) rX0_trueQuantileAt [.ref (ad L d), .int (nI q)] σ (some (.int (V.getD (q * (V.length - 1) / 1000) 0))) σ := by
  refine Mf.ofW (by decide) (Nat.le_of_ble_eq_true rfl) ?_
  intro p e s m args below meth c ls post hp hI S hr hlk hK h hl
  have hx := S.1
  have hb := S.2.1
  have hok := h.ok
  have hl : lv_has ls 2 [(0, .ref (ad L d)), (1, .int (nI q))] := hl
  obtain ⟨hvh, eb, ev, ep⟩ := id hv
  have hA := hvh.le hok (kd0_heaps hk)
  have hB20 : B.length ≤ 20 := by have := hok _ (kd0_buf hk); rw [eb, (kd_0h d (kd_of hk) hk).2.2.2.1] at this; exact this
  have hV200 : V.length ≤ 200 := by have := hok.len (kd0_val hk); rw [ev] at this; exact this
  have hm : q * (V.length - 1) / 1000 ≤ 200 := by have : q * (V.length - 1) ≤ 1000 * 199 := Nat.mul_le_mul hq (by omega); omega
  refine lv_aload_n hx hb dX0_trueQuantileAt_0 rfl (lv_at hl 0 rfl) ?_
  refine g_values S hK h hk q_85 dX0_trueQuantileAt_1 ?_
  refine lv_iload_n hx hb dX0_trueQuantileAt_4 rfl (lv_at hl 1 rfl) ?_
  refine lv_aload_n hx hb dX0_trueQuantileAt_5 rfl (lv_at hl 0 rfl) ?_
  refine g_values S hK h hk q_85 dX0_trueQuantileAt_6 ?_
  refine q_V1 (ci := 4) S hI hK h [] (c_X4_length l L σ (kd0_val hk)) (kd0_val hk) rfl (by decide) q_227 q_228 q_229 q_3 q_230 yd_X4_length rfl ⟨⟨rfl, rfl⟩, ⟨(Nat.le_of_ble_eq_true rfl), (Nat.le_of_ble_eq_true rfl)⟩, Nat.le_refl _, Nat.le_refl _⟩ rfl (Nat.le_of_ble_eq_true rfl) hl.1 dX0_trueQuantileAt_9 (fun H locs h => ?_)
  refine cv_i (show (nI ((σ (d + 12)).length) : Int32) = nI V.length from (by rw [ev])) ?_
  refine q_SN1 S hI hK h [.int (nI q), .int (nI V.length)] (c_X7_trueIndex l L σ q V.length (by omega) (by omega) (by omega)) hK.2 q_479 q_1 q_480 yd_X7_trueIndex rfl ⟨⟨rfl, rfl⟩, ⟨(Nat.le_of_ble_eq_true rfl), (Nat.le_of_ble_eq_true rfl)⟩, Nat.le_refl _, Nat.le_refl _⟩ rfl (Nat.le_of_ble_eq_true rfl) hl.1 dX0_trueQuantileAt_12 (fun H locs h => ?_)
  refine q_V1 (ci := 4) S hI hK h [.int (nI (q * (V.length - 1) / 1000))] (c_X4_at l L σ (kd0_val hk) (by omega)) (kd0_val hk) rfl (by decide) q_272 q_224 q_225 q_3 q_226 yd_X4_at rfl ⟨⟨rfl, rfl⟩, ⟨(Nat.le_of_ble_eq_true rfl), (Nat.le_of_ble_eq_true rfl)⟩, Nat.le_refl _, Nat.le_refl _⟩ rfl (Nat.le_of_ble_eq_true rfl) hl.1 dX0_trueQuantileAt_15 (fun H locs h => ?_)
  refine cv_i (show ((σ (d + 12)).getD (q * (V.length - 1) / 1000) 0 : Int32) = V.getD (q * (V.length - 1) / 1000) 0 from (by rw [ev])) ?_
  exact e_i S hK h hr hlk dX0_trueQuantileAt_18 hp

abbrev rX0_packBy : Room := { frames := 4, cells := 0, slots := 0, locals := 92 }
theorem yd_X0_packBy : ydV yX0_packBy RX0 1 := ⟨rfl, by decide +kernel, by decide +kernel, by decide +kernel⟩
set_option maxHeartbeats 4000000 in
set_option maxRecDepth 100000 in
theorem c_X0_packBy (l : Launch) (L : Lay) (σ : St) {d : Nat} {A : List Hp} {B V : List Int32} {p0 : Int32} (hk : kd d = 0) (hv : DV σ d A B V p0) (hlen : A.length + B.length ≤ 200) (f : Int32) : Mf l L yX0_packBy (Cond.code yX0_packBy cX0_packBy 2 none :: qA) rX0_packBy [.ref (ad L d), .int f] σ none (dset σ d (packL f (A ++ B.map hunit)) [] V (p0 + nI 1)) := by
  refine Mf.ofW (by decide) (Nat.le_of_ble_eq_true rfl) ?_
  intro p e s m args below meth c ls post hp hI S hr hlk hK h hl
  have hx := S.1
  have hb := S.2.1
  have hok := h.ok
  have hl : lv_has ls 2 [(0, .ref (ad L d)), (1, .int f)] := hl
  obtain ⟨hvh, eb, ev, ep⟩ := id hv
  have hA := hvh.le hok (kd0_heaps hk)
  have hB20 : B.length ≤ 20 := by have := hok _ (kd0_buf hk); rw [eb, (kd_0h d (kd_of hk) hk).2.2.2.1] at this; exact this
  have hV200 : V.length ≤ 200 := by have := hok.len (kd0_val hk); rw [ev] at this; exact this
  refine lv_aload_n hx hb dX0_packBy_0 rfl (lv_at hl 0 rfl) ?_
  refine g_heaps S hK h hk q_80 dX0_packBy_1 ?_
  refine lv_aload_n hx hb dX0_packBy_4 rfl (lv_at hl 0 rfl) ?_
  refine g_buffer S hK h hk q_83 dX0_packBy_5 ?_
  refine q_V0 (ci := 1) S hI hK h [.ref (ad L (d + 10))] (c_X1_appendEach l L σ (kd0_heaps hk) (kd0_buf hk) (by omega) (by omega) (by omega) (by omega) hvh (by rw [eb]; exact hlen)) (kd0_heaps hk) rfl (by decide) q_277 q_278 q_279 q_6 q_280 yd_X1_appendEach rfl ⟨⟨rfl, rfl⟩, ⟨(Nat.le_of_ble_eq_true rfl), (Nat.le_of_ble_eq_true rfl)⟩, Nat.le_refl _, Nat.le_refl _⟩ rfl (Nat.le_of_ble_eq_true rfl) hl.1 dX0_packBy_8 (fun H locs h => ?_)
  have h := h.to (show hset σ (d + 1) (A ++ (σ (d + 10)).map hunit) = hset σ (d + 1) (A ++ B.map hunit) from (by rw [eb]))
  refine lv_aload_n hx hb dX0_packBy_11 rfl (lv_at hl 0 rfl) ?_
  refine g_buffer S hK h hk q_83 dX0_packBy_12 ?_
  refine q_V0 (ci := 4) S hI hK h [] (c_X4_empty l L (hset σ (d + 1) (A ++ B.map hunit)) (kd0_buf hk)) (kd0_buf hk) rfl (by decide) q_284 q_285 q_286 q_3 q_287 yd_X4_empty rfl ⟨⟨rfl, rfl⟩, ⟨(Nat.le_of_ble_eq_true rfl), (Nat.le_of_ble_eq_true rfl)⟩, Nat.le_refl _, Nat.le_refl _⟩ rfl (Nat.le_of_ble_eq_true rfl) hl.1 dX0_packBy_15 (fun H locs h => ?_)
  refine lv_aload_n hx hb dX0_packBy_18 rfl (lv_at hl 0 rfl) ?_
  refine g_heaps S hK h hk q_80 dX0_packBy_19 ?_
  refine lv_iload_n hx hb dX0_packBy_22 rfl (lv_at hl 1 rfl) ?_
  refine q_V0 (ci := 1) S hI hK h [.int f] (c_X1_packBy l L (up (hset σ (d + 1) (A ++ B.map hunit)) (d + 10) ([])) (kd0_heaps hk) (HV.hset.up (by omega))  f) (kd0_heaps hk) rfl (by decide) q_288 q_289 q_290 q_6 q_291 yd_X1_packBy rfl ⟨⟨rfl, rfl⟩, ⟨(Nat.le_of_ble_eq_true rfl), (Nat.le_of_ble_eq_true rfl)⟩, Nat.le_refl _, Nat.le_refl _⟩ rfl (Nat.le_of_ble_eq_true rfl) hl.1 dX0_packBy_23 (fun H locs h => ?_)
  refine lv_aload_n hx hb dX0_packBy_26 rfl (lv_at hl 0 rfl) ?_
  refine lv_dup hx hb dX0_packBy_27 rfl ?_
  refine g_packings S hK h hk q_87 dX0_packBy_28 ?_
  refine cv_i (show (((hset (up (hset σ (d + 1) (A ++ B.map hunit)) (d + 10) ([])) (d + 1) (packL f (A ++ B.map hunit))) d).getD 0 0 : Int32) = p0 from (by rw [hset_n (by omega) (by omega) (by omega) (by omega), up_n (by omega), hset_n (by omega) (by omega) (by omega) (by omega), ep]; rfl)) ?_
  refine lv_iconst (v := (nI 1)) hx hb dX0_packBy_31 (by decide) ?_
  refine lv_iadd hx hb dX0_packBy_32 ?_
  refine p_packings S hI hK h hk q_87 dX0_packBy_33 (fun H locs h => ?_)
  exact e_v S hK h hr hlk dX0_packBy_36 (fin_p hp rfl (dset_of ⟨HV.hset.up (by omega), by rw [up_n (by omega), hset_n (by omega) (by omega) (by omega) (by omega), up_s], by rw [up_n (by omega), hset_n (by omega) (by omega) (by omega) (by omega), up_n (by omega), hset_n (by omega) (by omega) (by omega) (by omega), ev], up_s⟩ (fun j a b c e f g h => by rw [up_n a, hset_n (by omega) (by omega) (by omega) (by omega), up_n g, hset_n (by omega) (by omega) (by omega) (by omega)])))

abbrev rX0_empty : Room := { frames := 2, cells := 0, slots := 0, locals := 40 }
theorem yd_X0_empty : ydV yX0_empty RX0 0 := ⟨rfl, by decide +kernel, by decide +kernel, by decide +kernel⟩
set_option maxHeartbeats 4000000 in
set_option maxRecDepth 100000 in
theorem c_X0_empty (l : Launch) (L : Lay) (σ : St) {d : Nat} {A : List Hp} {B V : List Int32} {p0 : Int32} (hk : kd d = 0) (hv : DV σ d A B V p0) : Mf l L yX0_empty (Cond.code yX0_empty cX0_empty 1 none :: qA) rX0_empty [.ref (ad L d)] σ none (dset σ d [] [] [] p0) := by
  refine Mf.ofW (by decide) (Nat.le_of_ble_eq_true rfl) ?_
  intro p e s m args below meth c ls post hp hI S hr hlk hK h hl
  have hx := S.1
  have hb := S.2.1
  have hok := h.ok
  have hl : lv_has ls 1 [(0, .ref (ad L d))] := hl
  obtain ⟨hvh, eb, ev, ep⟩ := id hv
  have hA := hvh.le hok (kd0_heaps hk)
  have hB20 : B.length ≤ 20 := by have := hok _ (kd0_buf hk); rw [eb, (kd_0h d (kd_of hk) hk).2.2.2.1] at this; exact this
  have hV200 : V.length ≤ 200 := by have := hok.len (kd0_val hk); rw [ev] at this; exact this
  refine lv_aload_n hx hb dX0_empty_0 rfl (lv_at hl 0 rfl) ?_
  refine g_heaps S hK h hk q_80 dX0_empty_1 ?_
  refine q_V0 (ci := 1) S hI hK h [] (c_X1_empty l L σ (kd0_heaps hk)) (kd0_heaps hk) rfl (by decide) q_376 q_377 q_378 q_6 q_379 yd_X1_empty rfl ⟨⟨rfl, rfl⟩, ⟨(Nat.le_of_ble_eq_true rfl), (Nat.le_of_ble_eq_true rfl)⟩, Nat.le_refl _, Nat.le_refl _⟩ rfl (Nat.le_of_ble_eq_true rfl) hl.1 dX0_empty_4 (fun H locs h => ?_)
  refine lv_aload_n hx hb dX0_empty_7 rfl (lv_at hl 0 rfl) ?_
  refine g_buffer S hK h hk q_83 dX0_empty_8 ?_
  refine q_V0 (ci := 4) S hI hK h [] (c_X4_empty l L (hset σ (d + 1) []) (kd0_buf hk)) (kd0_buf hk) rfl (by decide) q_284 q_285 q_286 q_3 q_287 yd_X4_empty rfl ⟨⟨rfl, rfl⟩, ⟨(Nat.le_of_ble_eq_true rfl), (Nat.le_of_ble_eq_true rfl)⟩, Nat.le_refl _, Nat.le_refl _⟩ rfl (Nat.le_of_ble_eq_true rfl) hl.1 dX0_empty_11 (fun H locs h => ?_)
  refine lv_aload_n hx hb dX0_empty_14 rfl (lv_at hl 0 rfl) ?_
  refine g_values S hK h hk q_85 dX0_empty_15 ?_
  refine q_V0 (ci := 4) S hI hK h [] (c_X4_empty l L (up (hset σ (d + 1) []) (d + 10) ([])) (kd0_val hk)) (kd0_val hk) rfl (by decide) q_284 q_285 q_286 q_3 q_287 yd_X4_empty rfl ⟨⟨rfl, rfl⟩, ⟨(Nat.le_of_ble_eq_true rfl), (Nat.le_of_ble_eq_true rfl)⟩, Nat.le_refl _, Nat.le_refl _⟩ rfl (Nat.le_of_ble_eq_true rfl) hl.1 dX0_empty_18 (fun H locs h => ?_)
  exact e_v S hK h hr hlk dX0_empty_21 (fin_p hp rfl (dset_of ⟨(HV.hset.up (by omega)).up (by omega), by rw [up_n (by omega), up_s], up_s, by rw [up_n (by omega), up_n (by omega), hset_n (by omega) (by omega) (by omega) (by omega), ep]⟩ (fun j a b c e f g h => by rw [up_n h, up_n g, hset_n (by omega) (by omega) (by omega) (by omega)])))

abbrev rX0_copyFrom : Room := { frames := 3, cells := 0, slots := 0, locals := 102 }
theorem yd_X0_copyFrom : ydV yX0_copyFrom RX0 1 := ⟨rfl, by decide +kernel, by decide +kernel, by decide +kernel⟩
set_option maxHeartbeats 4000000 in
set_option maxRecDepth 100000 in
theorem c_X0_copyFrom (l : Launch) (L : Lay) (σ : St) {d d2 : Nat} {A2 : List Hp} {B2 V2 : List Int32} {p2 : Int32} (hk : kd d = 0) (hk2 : kd d2 = 0) (hne : d2 ≠ d) (hv2 : DV σ d2 A2 B2 V2 p2) : Mf l L yX0_copyFrom (Cond.code yX0_copyFrom cX0_copyFrom 2 none :: qA) rX0_copyFrom [.ref (ad L d), .ref (ad L d2)] σ none (dset σ d A2 B2 V2 p2) := by
  refine Mf.ofW (by decide) (Nat.le_of_ble_eq_true rfl) ?_
  intro p e s m args below meth c ls post hp hI S hr hlk hK h hl
  have hx := S.1
  have hb := S.2.1
  have hok := h.ok
  have hl : lv_has ls 2 [(0, .ref (ad L d)), (1, .ref (ad L d2))] := hl
  have hap := kd00 hk hk2 (Ne.symm hne)
  obtain ⟨hvh, eb, ev, ep⟩ := id hv2
  have hc := kd_0h d (kd_of hk) hk
  have hc2 := kd_0h d2 (kd_of hk2) hk2
  have hb20 := hok _ (kd0_buf hk2)
  have hv200 := hok _ (kd0_val hk2)
  refine lv_aload_n hx hb dX0_copyFrom_0 rfl (lv_at hl 0 rfl) ?_
  refine g_heaps S hK h hk q_80 dX0_copyFrom_1 ?_
  refine lv_aload_n hx hb dX0_copyFrom_4 rfl (lv_at hl 1 rfl) ?_
  refine g_heaps S hK h hk2 q_80 dX0_copyFrom_5 ?_
  refine q_V0 (ci := 1) S hI hK h [.ref (ad L (d2 + 1))] (c_X1_copyFrom l L σ (kd0_heaps hk) (kd0_heaps hk2) (by omega) hvh) (kd0_heaps hk) rfl (by decide) q_262 q_263 q_264 q_6 q_265 yd_X1_copyFrom rfl ⟨⟨rfl, rfl⟩, ⟨(Nat.le_of_ble_eq_true rfl), (Nat.le_of_ble_eq_true rfl)⟩, Nat.le_refl _, Nat.le_refl _⟩ rfl (Nat.le_of_ble_eq_true rfl) hl.1 dX0_copyFrom_8 (fun H locs h => ?_)
  refine lv_aload_n hx hb dX0_copyFrom_11 rfl (lv_at hl 0 rfl) ?_
  refine g_buffer S hK h hk q_83 dX0_copyFrom_12 ?_
  refine lv_aload_n hx hb dX0_copyFrom_15 rfl (lv_at hl 1 rfl) ?_
  refine g_buffer S hK h hk2 q_83 dX0_copyFrom_16 ?_
  refine q_V0 (ci := 4) S hI hK h [.ref (ad L (d2 + 10))] (c_X4_copyFrom l L (hset σ (d + 1) A2) (kd0_buf hk) (kd0_buf hk2) (by omega) (by rw [hset_n (by omega) (by omega) (by omega) (by omega)]; omega)) (kd0_buf hk) rfl (by decide) q_267 q_249 q_250 q_3 q_251 yd_X4_copyFrom rfl ⟨⟨rfl, rfl⟩, ⟨(Nat.le_of_ble_eq_true rfl), (Nat.le_of_ble_eq_true rfl)⟩, Nat.le_refl _, Nat.le_refl _⟩ rfl (Nat.le_of_ble_eq_true rfl) hl.1 dX0_copyFrom_19 (fun H locs h => ?_)
  have h := h.to (show up (hset σ (d + 1) A2) (d + 10) ((hset σ (d + 1) A2) (d2 + 10)) = up (hset σ (d + 1) A2) (d + 10) B2 from (by rw [hset_n (by omega) (by omega) (by omega) (by omega), eb]))
  refine lv_aload_n hx hb dX0_copyFrom_22 rfl (lv_at hl 0 rfl) ?_
  refine g_values S hK h hk q_85 dX0_copyFrom_23 ?_
  refine lv_aload_n hx hb dX0_copyFrom_26 rfl (lv_at hl 1 rfl) ?_
  refine g_values S hK h hk2 q_85 dX0_copyFrom_27 ?_
  refine q_V0 (ci := 4) S hI hK h [.ref (ad L (d2 + 12))] (c_X4_copyFrom l L (up (hset σ (d + 1) A2) (d + 10) B2) (kd0_val hk) (kd0_val hk2) (by omega) (by rw [up_n (by omega), hset_n (by omega) (by omega) (by omega) (by omega)]; omega)) (kd0_val hk) rfl (by decide) q_267 q_249 q_250 q_3 q_251 yd_X4_copyFrom rfl ⟨⟨rfl, rfl⟩, ⟨(Nat.le_of_ble_eq_true rfl), (Nat.le_of_ble_eq_true rfl)⟩, Nat.le_refl _, Nat.le_refl _⟩ rfl (Nat.le_of_ble_eq_true rfl) hl.1 dX0_copyFrom_30 (fun H locs h => ?_)
  have h := h.to (show up (up (hset σ (d + 1) A2) (d + 10) B2) (d + 12) ((up (hset σ (d + 1) A2) (d + 10) B2) (d2 + 12)) = up (up (hset σ (d + 1) A2) (d + 10) B2) (d + 12) V2 from (by rw [up_n (by omega), hset_n (by omega) (by omega) (by omega) (by omega), ev]))
  refine lv_aload_n hx hb dX0_copyFrom_33 rfl (lv_at hl 0 rfl) ?_
  refine lv_aload_n hx hb dX0_copyFrom_34 rfl (lv_at hl 1 rfl) ?_
  refine g_packings S hK h hk2 q_87 dX0_copyFrom_35 ?_
  refine cv_i (show (((up (up (hset σ (d + 1) A2) (d + 10) B2) (d + 12) V2) d2).getD 0 0 : Int32) = p2 from (by rw [up_n (by omega), up_n (by omega), hset_n (by omega) (by omega) (by omega) (by omega), ep]; rfl)) ?_
  refine p_packings S hI hK h hk q_87 dX0_copyFrom_38 (fun H locs h => ?_)
  exact e_v S hK h hr hlk dX0_copyFrom_41 (fin_p hp rfl (dset_of ⟨((HV.hset.up (by omega)).up (by omega)).up (by omega), by rw [up_n (by omega), up_n (by omega), up_s], by rw [up_n (by omega), up_s], up_s⟩ (fun j a b c e f g h => by rw [up_n a, up_n h, up_n g, hset_n (by omega) (by omega) (by omega) (by omega)])))

abbrev rX0_receive : Room := { frames := 5, cells := 0, slots := 0, locals := 113 }
theorem yd_X0_receive : ydV yX0_receive RX0 2 := ⟨rfl, by decide +kernel, by decide +kernel, by decide +kernel⟩
set_option maxHeartbeats 4000000 in
set_option maxRecDepth 100000 in
theorem c_X0_receive (l : Launch) (L : Lay) (σ : St) {d ks : Nat} {D : Dg} {s0 s1 : Int32} (hk : kd d = 0) (hks : kd ks = 4) (hap : ks < d ∨ d + 14 ≤ ks) (hv : DX σ d D) (hs : σ ks = [s0, s1]) (h20 : s1 ≤ 20) (hlen : D.1.length + D.2.1.length ≤ 200) (hV : D.2.2.1.length < 200) (v : Int32) : Mf l L yX0_receive (Cond.code yX0_receive cX0_receive 3 none :: qA) rX0_receive [.ref (ad L d), .int v, .ref (ad L ks)] σ none (dx σ d (rcvD s0 s1 D v)) := by
  refine Mf.ofW (by decide) (Nat.le_of_ble_eq_true rfl) ?_
  intro p e s m args below meth c ls post hp hI S hr hlk hK h hl
  have hx := S.1
  have hb := S.2.1
  have hok := h.ok
  have hl : lv_has ls 3 [(0, .ref (ad L d)), (1, .int v), (2, .ref (ad L ks))] := hl
  obtain ⟨hvh, eb, ev, ep⟩ := id hv
  have hB20 : D.2.1.length ≤ 20 := by have := hok _ (kd0_buf hk); rw [eb, (kd_0h d (kd_of hk) hk).2.2.2.1] at this; exact this
  have hc := kd_0h d (kd_of hk) hk
  refine lv_aload_n hx hb dX0_receive_0 rfl (lv_at hl 0 rfl) ?_
  refine g_buffer S hK h hk q_83 dX0_receive_1 ?_
  refine q_V1 (ci := 4) S hI hK h [] (c_X4_length l L σ (kd0_buf hk)) (kd0_buf hk) rfl (by decide) q_227 q_228 q_229 q_3 q_230 yd_X4_length rfl ⟨⟨rfl, rfl⟩, ⟨(Nat.le_of_ble_eq_true rfl), (Nat.le_of_ble_eq_true rfl)⟩, Nat.le_refl _, Nat.le_refl _⟩ rfl (Nat.le_of_ble_eq_true rfl) hl.1 dX0_receive_4 (fun H locs h => ?_)
  refine cv_i (show (nI ((σ (d + 10)).length) : Int32) = nI D.2.1.length from (by rw [eb])) ?_
  refine lv_aload_n hx hb dX0_receive_7 rfl (lv_at hl 2 rfl) ?_
  refine lv_iconst (v := (nI 1)) hx hb dX0_receive_8 (by decide) ?_
  refine q_V1 (ci := 4) S hI hK h [.int (nI 1)] (c_X4_at l L σ hks (by omega)) hks rfl (by decide) q_272 q_224 q_225 q_3 q_226 yd_X4_at rfl ⟨⟨rfl, rfl⟩, ⟨(Nat.le_of_ble_eq_true rfl), (Nat.le_of_ble_eq_true rfl)⟩, Nat.le_refl _, Nat.le_refl _⟩ rfl (Nat.le_of_ble_eq_true rfl) hl.1 dX0_receive_9 (fun H locs h => ?_)
  refine cv_i (show ((σ ks).getD 1 0 : Int32) = s1 from (by rw [hs]; rfl)) ?_
  have CT_24 : ∀ (E : Dg) (σ1 : St) (H : Heap) (locs : List Loc) (ls : Array Slot), (σ1 = dx σ d E) → (E.2.1.length < 20) → (E.2.2.1.length < 200) → (rcvD s0 s1 D v = (E.1, E.2.1 ++ [v], ins E.2.2.1 v, E.2.2.2)) → Hd L s.heap H σ1 locs → lv_has ls 3 [(0, .ref (ad L d)), (1, .int v), (2, .ref (ad L ks))] → W p l e rX0_receive s m args below meth c H locs 0 0 (MQ below (Qg post (bs L) (Aw L)) args s 0 0 (Aw L)) (F0 m 24 ls []) := by
    intro E σ1 H locs ls hE hbE hVE hr9 h hl
    have hok := h.ok
    have hvE : DX σ1 d E := by rw [hE]; exact DV.dset
    obtain ⟨hvh1, eb1, ev1, ep1⟩ := id hvE
    refine lv_aload_n hx hb dX0_receive_24 rfl (lv_at hl 0 rfl) ?_
    refine g_buffer S hK h hk q_83 dX0_receive_25 ?_
    refine lv_iload_n hx hb dX0_receive_28 rfl (lv_at hl 1 rfl) ?_
    refine q_V0 (ci := 4) S hI hK h [.int v] (c_X4_append l L σ1 (kd0_buf hk) (by rw [eb1]; omega) v) (kd0_buf hk) rfl (by decide) q_338 q_99 q_100 q_3 q_101 yd_X4_append rfl ⟨⟨rfl, rfl⟩, ⟨(Nat.le_of_ble_eq_true rfl), (Nat.le_of_ble_eq_true rfl)⟩, Nat.le_refl _, Nat.le_refl _⟩ rfl (Nat.le_of_ble_eq_true rfl) hl.1 dX0_receive_29 (fun H locs h => ?_)
    refine lv_aload_n hx hb dX0_receive_32 rfl (lv_at hl 0 rfl) ?_
    refine g_values S hK h hk q_85 dX0_receive_33 ?_
    refine lv_iload_n hx hb dX0_receive_36 rfl (lv_at hl 1 rfl) ?_
    refine q_V0 (ci := 4) S hI hK h [.int v] (c_X4_insertInOrder l L (up σ1 (d + 10) ((σ1 (d + 10)) ++ [v])) (kd0_val hk) (by rw [up_n (by omega), ev1]; omega) v) (kd0_val hk) rfl (by decide) q_339 q_340 q_341 q_3 q_342 yd_X4_insertInOrder rfl ⟨⟨rfl, rfl⟩, ⟨(Nat.le_of_ble_eq_true rfl), (Nat.le_of_ble_eq_true rfl)⟩, Nat.le_refl _, Nat.le_refl _⟩ rfl (Nat.le_of_ble_eq_true rfl) hl.1 dX0_receive_37 (fun H locs h => ?_)
    exact e_v S hK h hr hlk dX0_receive_40 (fin_p hp rfl (by rw [hr9]; exact (dset_of ⟨(hvh1.up (by omega)).up (by omega), by rw [up_n (by omega), up_s, eb1], by rw [up_s, up_n (by omega), ev1], by rw [up_n (by omega), up_n (by omega), ep1]⟩ (fun j a b c e f g h => by rw [up_n h, up_n g, hE]; exact dset_o a b c e f g h))))
  refine lv_icmp_lt (tgt := 24) hx hb dX0_receive_12 (by decide) (fun c_12 => ?_) (fun c_12 => ?_)
  · exact CT_24 D σ _ _ _ (dset_id hv).symm (rcv_b c_12 h20 hB20) hV (by rw [rcvD, if_neg (Int32.not_le.mpr c_12)]) h (lv_sub hl [0, 1, 2] rfl)
  · refine lv_aload_n hx hb dX0_receive_15 rfl (lv_at hl 0 rfl) ?_
    refine lv_aload_n hx hb dX0_receive_16 rfl (lv_at hl 2 rfl) ?_
    refine lv_iconst (v := (nI 0)) hx hb dX0_receive_17 (by decide) ?_
    refine q_V1 (ci := 4) S hI hK h [.int (nI 0)] (c_X4_at l L σ hks (by omega)) hks rfl (by decide) q_272 q_224 q_225 q_3 q_226 yd_X4_at rfl ⟨⟨rfl, rfl⟩, ⟨(Nat.le_of_ble_eq_true rfl), (Nat.le_of_ble_eq_true rfl)⟩, Nat.le_refl _, Nat.le_refl _⟩ rfl (Nat.le_of_ble_eq_true rfl) hl.1 dX0_receive_18 (fun H locs h => ?_)
    refine cv_i (show ((σ ks).getD 0 0 : Int32) = s0 from (by rw [hs]; rfl)) ?_
    refine q_V0 (ci := 0) S hI hK h [.int s0] (c_X0_packBy l L σ hk hv hlen s0) hk rfl (by decide) q_273 q_274 q_275 q_5 q_276 yd_X0_packBy rfl ⟨⟨rfl, rfl⟩, ⟨(Nat.le_of_ble_eq_true rfl), (Nat.le_of_ble_eq_true rfl)⟩, Nat.le_refl _, Nat.le_refl _⟩ rfl (Nat.le_of_ble_eq_true rfl) hl.1 dX0_receive_21 (fun H locs h => ?_)
    exact CT_24 (pkD s0 D) (dset σ d (packL s0 (D.1 ++ D.2.1.map hunit)) [] D.2.2.1 (D.2.2.2 + nI 1)) _ _ _ rfl (show (0 : Nat) < 20 from by omega) hV (by rw [rcvD, if_pos (Int32.not_lt.mp c_12)]) h (lv_sub hl [0, 1, 2] rfl)

abbrev rX0_takeOver : Room := { frames := 5, cells := 0, slots := 0, locals := 113 }
theorem yd_X0_takeOver : ydV yX0_takeOver RX0 2 := ⟨rfl, by decide +kernel, by decide +kernel, by decide +kernel⟩
set_option maxHeartbeats 4000000 in
set_option maxRecDepth 100000 in
theorem c_X0_takeOver (l : Launch) (L : Lay) (σ : St) {d d2 : Nat} {D D2 : Dg} (hk : kd d = 0) (hk2 : kd d2 = 0) (hne : d2 ≠ d) (hv : DX σ d D) (hv2 : DX σ d2 D2) (hlen : D.1.length + D.2.1.length + (D2.1.length + D2.2.1.length) ≤ 200) (hV : D.2.2.1.length + D2.2.2.1.length ≤ 200) (f : Int32) : Mf l L yX0_takeOver (Cond.code yX0_takeOver cX0_takeOver 4 none :: qA) rX0_takeOver [.ref (ad L d), .ref (ad L d2), .int f] σ none (dx (dx σ d2 (pkD f D2)) d (toD f D2 D)) := by
  refine Mf.ofW (by decide) (Nat.le_of_ble_eq_true rfl) ?_
  intro p e s m args below meth c ls post hp hI S hr hlk hK h hl
  have hx := S.1
  have hb := S.2.1
  have hok := h.ok
  have hl : lv_has ls 4 [(0, .ref (ad L d)), (1, .ref (ad L d2)), (2, .int f)] := hl
  have hap := kd00 hk hk2 (Ne.symm hne)
  have l1 : (pkD f D).1.length ≤ D.1.length + D.2.1.length := by have := packL_len (f := f) (A := D.1 ++ D.2.1.map hunit); rw [List.length_append, List.length_map] at this; exact this
  have l2 : (pkD f D2).1.length ≤ D2.1.length + D2.2.1.length := by have := packL_len (f := f) (A := D2.1 ++ D2.2.1.map hunit); rw [List.length_append, List.length_map] at this; exact this
  have hc := kd_0h d (kd_of hk) hk
  refine lv_aload_n hx hb dX0_takeOver_0 rfl (lv_at hl 1 rfl) ?_
  refine lv_iload_n hx hb dX0_takeOver_1 rfl (lv_at hl 2 rfl) ?_
  refine q_V0 (ci := 0) S hI hK h [.int f] (c_X0_packBy l L σ hk2 hv2 (by omega) f) hk2 rfl (by decide) q_273 q_274 q_275 q_5 q_276 yd_X0_packBy rfl ⟨⟨rfl, rfl⟩, ⟨(Nat.le_of_ble_eq_true rfl), (Nat.le_of_ble_eq_true rfl)⟩, Nat.le_refl _, Nat.le_refl _⟩ rfl (Nat.le_of_ble_eq_true rfl) hl.1 dX0_takeOver_2 (fun H locs h => ?_)
  have h := h.to (show dset σ d2 (packL f (D2.1 ++ D2.2.1.map hunit)) [] D2.2.2.1 (D2.2.2.2 + nI 1) = dx σ d2 (pkD f D2) from rfl)
  have hvA : DX (dx σ d2 (pkD f D2)) d D := DV_ne hv (by omega)
  refine lv_aload_n hx hb dX0_takeOver_5 rfl (lv_at hl 0 rfl) ?_
  refine lv_iload_n hx hb dX0_takeOver_6 rfl (lv_at hl 2 rfl) ?_
  refine q_V0 (ci := 0) S hI hK h [.int f] (c_X0_packBy l L (dx σ d2 (pkD f D2)) hk hvA (by omega) f) hk rfl (by decide) q_273 q_274 q_275 q_5 q_276 yd_X0_packBy rfl ⟨⟨rfl, rfl⟩, ⟨(Nat.le_of_ble_eq_true rfl), (Nat.le_of_ble_eq_true rfl)⟩, Nat.le_refl _, Nat.le_refl _⟩ rfl (Nat.le_of_ble_eq_true rfl) hl.1 dX0_takeOver_7 (fun H locs h => ?_)
  have h := h.to (show dset (dx σ d2 (pkD f D2)) d (packL f (D.1 ++ D.2.1.map hunit)) [] D.2.2.1 (D.2.2.2 + nI 1) = dx (dx σ d2 (pkD f D2)) d (pkD f D) from rfl)
  have hvB : DX (dx (dx σ d2 (pkD f D2)) d (pkD f D)) d2 (pkD f D2) := DV_ne DV.dset (by omega)
  have hvC : DX (dx (dx σ d2 (pkD f D2)) d (pkD f D)) d (pkD f D) := DV.dset
  refine lv_aload_n hx hb dX0_takeOver_10 rfl (lv_at hl 0 rfl) ?_
  refine g_heaps S hK h hk q_80 dX0_takeOver_11 ?_
  refine lv_aload_n hx hb dX0_takeOver_14 rfl (lv_at hl 1 rfl) ?_
  refine g_heaps S hK h hk2 q_80 dX0_takeOver_15 ?_
  refine q_V0 (ci := 1) S hI hK h [.ref (ad L (d2 + 1))] (c_X1_appendAll l L (dx (dx σ d2 (pkD f D2)) d (pkD f D)) (kd0_heaps hk) (kd0_heaps hk2) (by omega) hvC.1 hvB.1 (by omega)) (kd0_heaps hk) rfl (by decide) q_360 q_361 q_362 q_6 q_363 yd_X1_appendAll rfl ⟨⟨rfl, rfl⟩, ⟨(Nat.le_of_ble_eq_true rfl), (Nat.le_of_ble_eq_true rfl)⟩, Nat.le_refl _, Nat.le_refl _⟩ rfl (Nat.le_of_ble_eq_true rfl) hl.1 dX0_takeOver_18 (fun H locs h => ?_)
  obtain ⟨σ3, e_σ3⟩ : ∃ z : St, z = hset (dx (dx σ d2 (pkD f D2)) d (pkD f D)) (d + 1) (((pkD f D).1) ++ ((pkD f D2).1)) := ⟨_, rfl⟩
  have h := h.to e_σ3.symm
  have hvD : DV σ3 d ((pkD f D).1 ++ (pkD f D2).1) [] D.2.2.1 (D.2.2.2 + nI 1) := by rw [e_σ3]; exact ⟨HV.hset, by rw [hset_n (by omega) (by omega) (by omega) (by omega)]; exact hvC.2.1, by rw [hset_n (by omega) (by omega) (by omega) (by omega)]; exact hvC.2.2.1, by rw [hset_n (by omega) (by omega) (by omega) (by omega)]; exact hvC.2.2.2⟩
  refine lv_aload_n hx hb dX0_takeOver_21 rfl (lv_at hl 0 rfl) ?_
  refine lv_iload_n hx hb dX0_takeOver_22 rfl (lv_at hl 2 rfl) ?_
  refine q_V0 (ci := 0) S hI hK h [.int f] (c_X0_packBy l L σ3 hk hvD (by rw [List.length_append, List.length_nil]; omega) f) hk rfl (by decide) q_273 q_274 q_275 q_5 q_276 yd_X0_packBy rfl ⟨⟨rfl, rfl⟩, ⟨(Nat.le_of_ble_eq_true rfl), (Nat.le_of_ble_eq_true rfl)⟩, Nat.le_refl _, Nat.le_refl _⟩ rfl (Nat.le_of_ble_eq_true rfl) hl.1 dX0_takeOver_23 (fun H locs h => ?_)
  have h := h.to (show dset σ3 d (packL f (((pkD f D).1 ++ (pkD f D2).1) ++ ([] : List Int32).map hunit)) [] D.2.2.1 ((D.2.2.2 + nI 1) + nI 1) = dset (dx σ d2 (pkD f D2)) d (toD f D2 D).1 [] D.2.2.1 (D.2.2.2 + nI 1 + nI 1) from (by rw [List.map_nil, List.append_nil, e_σ3]; exact (dset_of (DV.dset) (fun j a b c e f g h => by rw [dset_o a b c e f g h, hset_n (by omega) (by omega) (by omega) (by omega)]; exact dset_o a b c e f g h))))
  refine lv_iconst (v := (nI 0)) hx hb dX0_takeOver_26 (by decide) ?_
  refine lv_istore_n (lv' := [(3, .int (nI 0)), (0, .ref (ad L d)), (1, .ref (ad L d2)), (2, .int f)]) hx hb dX0_takeOver_27 rfl hl (by decide) rfl (fun ls hl => ?_)
  have LP_28 : ∀ (n_28 : Nat) (i : Nat) (σ1 : St), (i ≤ D2.2.2.1.length) → (σ1 = dset (dx σ d2 (pkD f D2)) d (toD f D2 D).1 [] ((D2.2.2.1.take i).foldl ins D.2.2.1) (D.2.2.2 + nI 1 + nI 1)) → D2.2.2.1.length - i < n_28 → ∀ (H : Heap) (locs : List Loc) (ls : Array Slot), Hd L s.heap H σ1 locs → lv_has ls 4 [(3, .int (nI i)), (0, .ref (ad L d)), (1, .ref (ad L d2)), (2, .int f)] → W p l e rX0_takeOver s m args below meth c H locs 0 0 (MQ below (Qg post (bs L) (Aw L)) args s 0 0 (Aw L)) (F0 m 28 ls []) := by
    intro n_28
    induction n_28 with
    | zero => intro i σ1; intros; omega
    | succ n_28 ih_28 =>
      intro i σ1 hi hσ hm_28 H locs ls h hl
      have hok := h.ok
      have ev2 : σ1 (d2 + 12) = D2.2.2.1 := by rw [hσ, dset_n (by omega)]; exact dset_v
      have ev1 : σ1 (d + 12) = (D2.2.2.1.take i).foldl ins D.2.2.1 := by rw [hσ]; exact dset_v
      have elen : ((D2.2.2.1.take i).foldl ins D.2.2.1).length = D.2.2.1.length + i := by rw [foldl_ins_len, List.length_take]; omega
      refine lv_iload_n hx hb dX0_takeOver_28 rfl (lv_at hl 0 rfl) ?_
      refine lv_aload_n hx hb dX0_takeOver_29 rfl (lv_at hl 2 rfl) ?_
      refine g_values S hK h hk2 q_85 dX0_takeOver_30 ?_
      refine q_V1 (ci := 4) S hI hK h [] (c_X4_length l L σ1 (kd0_val hk2)) (kd0_val hk2) rfl (by decide) q_227 q_228 q_229 q_3 q_230 yd_X4_length rfl ⟨⟨rfl, rfl⟩, ⟨(Nat.le_of_ble_eq_true rfl), (Nat.le_of_ble_eq_true rfl)⟩, Nat.le_refl _, Nat.le_refl _⟩ rfl (Nat.le_of_ble_eq_true rfl) hl.1 dX0_takeOver_33 (fun H locs h => ?_)
      refine cv_i (show (nI ((σ1 (d2 + 12)).length) : Int32) = nI D2.2.2.1.length from (by rw [ev2])) ?_
      refine b_icmp_ge (tgt := 60) hx hb dX0_takeOver_36 (by decide) (by omega) (by omega) (fun c_36 => ?_) (fun c_36 => ?_)
      · have e4 : i = D2.2.2.1.length := by omega
        exact e_v S hK h hr hlk dX0_takeOver_60 (fin_p hp rfl (by rw [hσ, e4, List.take_of_length_le (Nat.le_refl _)]; rfl))
      · refine lv_aload_n hx hb dX0_takeOver_39 rfl (lv_at hl 1 rfl) ?_
        refine g_values S hK h hk q_85 dX0_takeOver_40 ?_
        refine lv_aload_n hx hb dX0_takeOver_43 rfl (lv_at hl 2 rfl) ?_
        refine g_values S hK h hk2 q_85 dX0_takeOver_44 ?_
        refine lv_iload_n hx hb dX0_takeOver_47 rfl (lv_at hl 0 rfl) ?_
        refine q_V1 (ci := 4) S hI hK h [.int (nI i)] (c_X4_at l L σ1 (kd0_val hk2) (by omega)) (kd0_val hk2) rfl (by decide) q_272 q_224 q_225 q_3 q_226 yd_X4_at rfl ⟨⟨rfl, rfl⟩, ⟨(Nat.le_of_ble_eq_true rfl), (Nat.le_of_ble_eq_true rfl)⟩, Nat.le_refl _, Nat.le_refl _⟩ rfl (Nat.le_of_ble_eq_true rfl) hl.1 dX0_takeOver_48 (fun H locs h => ?_)
        refine cv_i (show ((σ1 (d2 + 12)).getD i 0 : Int32) = D2.2.2.1.getD i 0 from (by rw [ev2])) ?_
        refine q_V0 (ci := 4) S hI hK h [.int (D2.2.2.1.getD i 0)] (c_X4_insertInOrder l L σ1 (kd0_val hk) (by rw [ev1, elen]; omega) (D2.2.2.1.getD i 0)) (kd0_val hk) rfl (by decide) q_339 q_340 q_341 q_3 q_342 yd_X4_insertInOrder rfl ⟨⟨rfl, rfl⟩, ⟨(Nat.le_of_ble_eq_true rfl), (Nat.le_of_ble_eq_true rfl)⟩, Nat.le_refl _, Nat.le_refl _⟩ rfl (Nat.le_of_ble_eq_true rfl) hl.1 dX0_takeOver_51 (fun H locs h => ?_)
        refine lv_iinc (v := (nI (i + 1))) (lv' := [(3, .int (nI (i + 1))), (0, .ref (ad L d)), (1, .ref (ad L d2)), (2, .int f)]) hx hb dX0_takeOver_54 hl (k := 0) rfl (iinc_1 _) (by decide) rfl (fun ls hl => ?_)
        refine lv_goto (tgt := 28) hx hb dX0_takeOver_57 (by decide) ?_
        exact ih_28 (i + 1) (up σ1 (d + 12) (ins (σ1 (d + 12)) (D2.2.2.1.getD i 0))) (by omega) (by rw [hσ, dset_v, ← take_snoc (d := 0) c_36, List.foldl_append]; exact (dset_of ⟨DV.dset.1.up (by omega), by rw [up_n (by omega)]; exact dset_b, by rw [up_s]; rfl, by rw [up_n (by omega)]; exact dset_d⟩ (fun j a b c e f g h => by rw [up_n h, dset_h a g h, hset_n (by omega) (by omega) (by omega) (by omega)]))) (by omega) _ _ _ h (lv_sub hl [0, 1, 2, 3] rfl)
  exact LP_28 _ 0 (dset (dx σ d2 (pkD f D2)) d (toD f D2 D).1 [] D.2.2.1 (D.2.2.2 + nI 1 + nI 1)) (by omega) rfl (Nat.lt_succ_self _) _ _ _ h (lv_sub hl [0, 1, 2, 3] rfl)
end
section
/-! a state: settings and three digests; the history; all that the class holds -/
abbrev SS : Type := Int32 × Int32 × (Nat → Dg)
def SV (σ : St) (s : Nat) (X : SS) : Prop := σ (s+1) = [X.1, X.2.1] ∧ ∀ i, i < 3 → DX σ (s + 3 + 14 * i) (X.2.2 i)
def sset (σ : St) (s : Nat) (X : SS) : St := dx (dx (dx (up σ (s+1) [X.1, X.2.1]) (s+3) (X.2.2 0)) (s+17) (X.2.2 1)) (s+31) (X.2.2 2)
theorem dx_n {σ : St} {d j : Nat} {D : Dg} (h : j < d ∨ d + 13 ≤ j) : dx σ d D j = σ j := dset_n h
theorem sset_n {σ : St} {s k : Nat} {X : SS} (h : k < s + 1 ∨ s + 44 ≤ k) : sset σ s X k = σ k := by
  unfold sset
  rw [dx_n (by omega), dx_n (by omega), dx_n (by omega), up_n (by omega)]
theorem SV.congr {σ σ' : St} {s : Nat} {X : SS} (hv : SV σ s X) (e : ∀ j, s + 1 ≤ j → j < s + 44 → σ' j = σ j) : SV σ' s X :=
  ⟨(e _ (by omega) (by omega)).trans hv.1, fun i hi => (hv.2 i hi).congr (fun j h1 h2 => e j (by omega) (by omega))⟩
theorem SV_sset {σ : St} {s : Nat} {X : SS} : SV (sset σ s X) s X := by
  refine ⟨?_, fun i hi => ?_⟩
  · unfold sset
    rw [dx_n (by omega), dx_n (by omega), dx_n (by omega), up_s]
  · rcases (show i = 0 ∨ i = 1 ∨ i = 2 by omega) with rfl | rfl | rfl
    · exact DV_ne (DV_ne DV.dset (by omega)) (by omega)
    · exact DV_ne DV.dset (by omega)
    · exact DV.dset
theorem SV_wok {σ : St} {X : SS} (hv : SV σ 0 X) : σ 1 = [X.1, X.2.1] := hv.1
def setD (X : SS) (i : Nat) (D : Dg) : SS := (X.1, X.2.1, fun j => if j = i then D else X.2.2 j)
theorem setD_i {X : SS} {i : Nat} {D : Dg} : (setD X i D).2.2 i = D := if_pos rfl
theorem setD_n {X : SS} {i j : Nat} {D : Dg} (h : j ≠ i) : (setD X i D).2.2 j = X.2.2 j := if_neg h
theorem SV_dx {σ : St} {s i : Nat} {X : SS} {D : Dg} (hv : SV σ s X) (hi : i < 3) : SV (dset σ (s + 3 + 14 * i) D.1 D.2.1 D.2.2.1 D.2.2.2) s (setD X i D) := by
  refine ⟨(dset_n (by omega)).trans hv.1, fun j hj => ?_⟩
  by_cases q : j = i
  · subst q
    rw [setD_i]
    exact DV.dset
  · rw [setD_n q]
    exact DV_ne (hv.2 j hj) (by omega)
/-- the order in which the history's states stand: a permutation of 1 to 4 -/
def OK4 (O : Nat → Nat) : Prop := (∀ i, i < 4 → 1 ≤ O i ∧ O i ≤ 4) ∧ ∀ i j, i < 4 → j < 4 → O i = O j → i = j
def Ol (O : Nat → Nat) : List Int32 := [nI (O 0), nI (O 1), nI (O 2), nI (O 3)]
def HS (σ : St) (O : Nat → Nat) (h : List SS) : Prop := h.length ≤ 4 ∧ σ 225 = [nI h.length] ∧ σ 226 = Ol O ∧ ∀ j X, h[j]? = some X → SV σ (45 * O j) X
def CR (σ : St) (X : SS) (h : List SS) (t : List Int32) : Prop := SV σ 0 X ∧ (∃ O, OK4 O ∧ HS σ O h) ∧ σ 227 = t
def recH (h : List SS) (X : SS) : List SS := (if h.length < 4 then h else h.tail) ++ [X]
theorem CR.congr {σ σ' : St} {X : SS} {h : List SS} {t : List Int32} (hc : CR σ X h t) (e : ∀ j, j < 228 → σ' j = σ j) : CR σ' X h t := by
  obtain ⟨a, ⟨O, hO, b, c, d, f⟩, g⟩ := hc
  refine ⟨a.congr (fun j _ h2 => e j (by omega)), ⟨O, hO, b, (e _ (by omega)).trans c, (e _ (by omega)).trans d, fun j Y hj => (f j Y hj).congr (fun i h1 h2 => e i ?_)⟩, (e _ (by omega)).trans g⟩
  have hl := (List.getElem?_eq_some_iff.mp hj).1
  have := (hO.1 j (by omega)).2
  omega
theorem CR_hset {σ : St} {X : SS} {h : List SS} {t : List Int32} {k : Nat} {A : List Hp} (hc : CR σ X h t) (hk : 228 ≤ k) : CR (hset σ k A) X h t :=
  hc.congr (fun j hj => hset_n (by omega) (by omega) (by omega) (by omega))
theorem CR_up {σ : St} {X : SS} {h : List SS} {t l : List Int32} {k : Nat} (hc : CR σ X h t) (hk : 228 ≤ k) : CR (up σ k l) X h t := hc.congr (fun j hj => up_n (by omega))
theorem CR_dx {σ : St} {X : SS} {h : List SS} {t : List Int32} {i : Nat} {D : Dg} (hc : CR σ X h t) (hi : i < 3) : CR (dset σ (3 + 14 * i) D.1 D.2.1 D.2.2.1 D.2.2.2) (setD X i D) h t := by
  obtain ⟨a, ⟨O, hO, b, c, d, f⟩, g⟩ := hc
  have e := SV_dx (D := D) a hi
  rw [Nat.zero_add] at e
  refine ⟨e, ⟨O, hO, b, (dset_n (by omega)).trans c, (dset_n (by omega)).trans d, fun j Y hj => (f j Y hj).congr (fun k h1 h2 => dset_n ?_)⟩, (dset_n (by omega)).trans g⟩
  have hl := (List.getElem?_eq_some_iff.mp hj).1
  have := (hO.1 j (by omega)).1
  omega
theorem CR_text {σ : St} {X : SS} {h : List SS} {t t' : List Int32} (hc : CR σ X h t) : CR (up σ 227 t') X h t' := by
  obtain ⟨a, ⟨O, hO, b, c, d, f⟩, g⟩ := hc
  refine ⟨a.congr (fun j _ h2 => up_n (by omega)), ⟨O, hO, b, (up_n (by omega)).trans c, (up_n (by omega)).trans d, fun j Y hj => (f j Y hj).congr (fun k h1 h2 => up_n ?_)⟩, up_s⟩
  have hl := (List.getElem?_eq_some_iff.mp hj).1
  have := (hO.1 j (by omega)).2
  omega
/-- the current state is recorded at a free place -/
theorem HS_push {σ : St} {O : Nat → Nat} {h : List SS} {X : SS} (hO : OK4 O) (hs : HS σ O h) (hl : h.length < 4) : HS (up (sset σ (45 * O h.length) X) 225 [nI (h.length + 1)]) O (h ++ [X]) := by
  obtain ⟨a, b, c, d⟩ := hs
  have ho := hO.1 h.length hl
  refine ⟨by simp; omega, by rw [up_s]; simp, by rw [up_n (by omega), sset_n (by omega)]; exact c, fun j Y hj => ?_⟩
  by_cases q : j < h.length
  · rw [List.getElem?_append_left q] at hj
    have hoj := hO.1 j (by omega)
    have hne : O j ≠ O h.length := fun z => by have := hO.2 j h.length (by omega) hl z; omega
    exact (d j Y hj).congr (fun k h1 h2 => by rw [up_n (by omega), sset_n (by omega)])
  · have hj2 := (List.getElem?_eq_some_iff.mp hj).1
    rw [List.length_append, List.length_singleton] at hj2
    have e : j = h.length := by omega
    subst e
    rw [List.getElem?_append_right (Nat.le_refl _), Nat.sub_self] at hj
    cases hj
    exact SV_sset.congr (fun k h1 h2 => up_n (by omega))
def rot (O : Nat → Nat) : Nat → Nat := fun i => if i = 3 then O 0 else O (i + 1)
theorem rot_OK {O : Nat → Nat} (h : OK4 O) : OK4 (rot O) := by
  have key : ∀ i, i < 4 → ∃ k, k < 4 ∧ rot O i = O k ∧ (k = 0 ∧ i = 3 ∨ k = i + 1 ∧ i < 3) := by
    intro i hi
    by_cases q : i = 3
    · exact ⟨0, by omega, if_pos q, Or.inl ⟨rfl, q⟩⟩
    · exact ⟨i + 1, by omega, if_neg q, Or.inr ⟨rfl, by omega⟩⟩
  refine ⟨fun i hi => ?_, fun i j hi hj e => ?_⟩
  · obtain ⟨k, hk, hr, -⟩ := key i hi
    rw [hr]
    exact h.1 k hk
  · obtain ⟨k, hk, hr, h1⟩ := key i hi
    obtain ⟨k2, hk2, hr2, h2⟩ := key j hj
    rw [hr, hr2] at e
    have := h.2 k k2 hk hk2 e
    omega
/-- the oldest state is dropped: the others move one place ahead -/
theorem HS_drop {σ : St} {O : Nat → Nat} {h : List SS} (hO : OK4 O) (hs : HS σ O h) (hl : h.length = 4) : HS (up (up σ 226 (Ol (rot O))) 225 [nI 3]) (rot O) h.tail := by
  obtain ⟨a, b, c, d⟩ := hs
  have e : h.tail.length = 3 := by rw [List.length_tail, hl]
  refine ⟨by omega, by rw [up_s, e], by rw [up_n (by omega), up_s], fun j Y hj => ?_⟩
  have hj3 := (List.getElem?_eq_some_iff.mp hj).1
  rw [List.getElem?_tail] at hj
  have hr : rot O j = O (j + 1) := if_neg (by omega)
  rw [hr]
  have := (hO.1 (j + 1) (by omega)).2
  exact (d (j + 1) Y hj).congr (fun k h1 h2 => by rw [up_n (by omega), up_n (by omega)])
theorem kd45 {o : Nat} (h : o < 5) : kd (45 * o) = 5 := by
  rcases (show o = 0 ∨ o = 1 ∨ o = 2 ∨ o = 3 ∨ o = 4 by omega) with rfl | rfl | rfl | rfl | rfl <;> decide
theorem kd2 {k : Nat} (h : kd k = 2) : k = 225 := (show ∀ k, k < 245 → kd k = 2 → k = 225 from by decide +kernel) k (kd_of h) h
theorem kd314 {i : Nat} (h : i < 3) : kd (3 + 14 * i) = 0 := by
  rcases (show i = 0 ∨ i = 1 ∨ i = 2 by omega) with rfl | rfl | rfl <;> decide
theorem kd5d {k i : Nat} (hk : kd k = 5) (h : i < 3) : kd (k + 3 + 14 * i) = 0 := by
  rcases (show i = 0 ∨ i = 1 ∨ i = 2 by omega) with rfl | rfl | rfl
  · exact kd5_1 hk
  · exact kd5_2 hk
  · exact kd5_3 hk
section QSEL
variable {p : Program} {l : Launch} {e : Env} {R : Room} {s : State} {m : MethodId} {args : Array Value} {below : List Frame} {meth : Method} {c : Code} {H : Heap} {locs : List Loc} {cells slots : Nat} {Q : State → Prop}
variable {cc : ByteArray} {pc tgt nL index i o : Nat} {off : Int} {own : String} {ls : Array Slot} {rest st0 : List Value} {L : Lay} {H0 : Heap} {σ σ' : St} {k : Nat}
theorem g_salen (S : CallFix p m c cc nL s args qA own) (hK : Kn L s) (h : Hd L H0 H σ locs) (hk : kd k = 2) (hd : decode cc pc = .ok (.arraylength, 1)) (kk : W p l e R s m args below meth c H locs cells slots Q (F0 m (pc + 1) ls (.int (nI 4) :: rest))) : W p l e R s m args below meth c H locs cells slots Q (F0 m pc ls (.ref (ad L (k+1)) :: rest)) := by
  obtain rfl := kd2 hk
  obtain ⟨J, hJ⟩ := h.J
  exact va_alen (D := L.1) (x := (4, .inr (.inr (.inr (.inr (fun i => some (ad L (45 * ((σ 226).getD i 0).toNatClampNeg)))))))) S.1 S.2.1 hK.1 hJ.2.1 226 1 (by rw [wld_at (by omega), cnt_10 (by decide)]) rfl rfl hd kk
theorem g_sel (S : CallFix p m c cc nL s args qA own) (hK : Kn L s) (h : Hd L H0 H σ locs) (hk : kd k = 2) (hi : i < 4) (ho : (σ (k+1)).getD i 0 = nI o) (ho2 : o < 5) (hd : decode cc pc = .ok (.aaload, 1)) (kk : W p l e R s m args below meth c H locs cells slots Q (F0 m (pc + 1) ls (.ref (ad L (45 * o)) :: rest))) : W p l e R s m args below meth c H locs cells slots Q (F0 m pc ls (.int (nI i) :: .ref (ad L (k+1)) :: rest)) := by
  obtain rfl := kd2 hk
  obtain ⟨J, hJ⟩ := h.J
  refine va_aldq (D := L.1) (C := RX5) (n := 4) (f := fun i => some (ad L (45 * ((σ 226).getD i 0).toNatClampNeg))) S.1 S.2.1 hK.1 hJ.2.1 226 1 (by rw [wld_at (by omega), cnt_10 (by decide)]) rfl (vp_in_nI (by omega) (by omega)) hd ?_
  rw [nI_clamp (by omega), ho, nI_clamp (by omega)]
  exact kk
theorem p_sel (S : CallFix p m c cc nL s args qA own) (hI : Inj L) (hK : Kn L s) (h : Hd L H0 H σ locs) (hk : kd k = 2) (hi : i < 4) (hl : (σ (k+1)).length = 4) (ho2 : o < 5) (hd : decode cc pc = .ok (.aastore, 1)) (kk : ∀ (H1 : Heap) (locs1 : List Loc), Hd L H0 H1 (up σ (k+1) ((σ (k+1)).set i (nI o))) locs1 → W p l e R s m args below meth c H1 locs1 cells slots Q (F0 m (pc + 1) ls rest)) : W p l e R s m args below meth c H locs cells slots Q (F0 m pc ls (.ref (ad L (45 * o)) :: .int (nI i) :: .ref (ad L (k+1)) :: rest)) := by
  obtain rfl := kd2 hk
  obtain ⟨J, hJ⟩ := h.J
  have h5 := kd45 ho2
  refine va_astq (D := L.1) (r := (RX5, TX5, 4)) (n := 4) (f := fun i => some (ad L (45 * ((σ 226).getD i 0).toNatClampNeg))) S.1 S.2.1 hK.1 hJ.2.1 (hI.D σ J) hJ.2.2 226 1 (45 * o) 5 (by rw [wld_at (by omega), cnt_10 (by decide)]) rfl (by rw [wld_at (kd_of h5), cnt_5 h5]) rfl (vp_in_nI (by omega) (by omega)) hd (fun H1 locs1 hP1 _ hS1 => kk H1 locs1 ⟨⟨wok_upn h.ok (by decide), J, ?_⟩, hS1⟩)
  rw [nI_clamp (by omega)] at hP1
  rw [wld_set (σ' := up σ (225+1) ((σ (225+1)).set i (nI o))) (J' := J) (by omega) ?_ (cnt_upo (by decide))] at hP1
  · exact hP1
  · rw [cnt_10 (by decide)]
    congr 7
    funext j
    unfold va_up
    by_cases hj : j = i
    · subst hj
      rw [if_pos rfl, up_s, getD_set_self (by omega), nI_clamp (by omega)]
    · rw [if_neg hj, up_s, getD_set_ne (Ne.symm hj)]
theorem Mr_ofW {y : MethodName} {rm : Room} {maxL : Nat} {ret : Option FieldType} {as : List Value} {Post : Option Value → St → Prop} (hy : plainName y.cls = true) (hlen : (lg_sl as).length ≤ maxL)
    (body : ∀ (p : Program) (e : Env) (s : State) (m : MethodId) (args : Array Value) (below : List Frame) (meth : Method) (c : Code) (ls : Array Slot) (post : Option Value → St → Prop), (∀ r u, Post r u → post r u) → Inj L → CallFix p m c cc maxL s args qA y.cls → meth.sig.returnType = ret → meth.locks = false → Kn L s → Hd L s.heap s.heap σ [] → lv_has ls maxL (lv_args 0 as) →
      W p l e rm s m args below meth c s.heap [] 0 0 (MQ below (Qg post (bs L) (Aw L)) args s 0 0 (Aw L)) (F0 m 0 ls [])) : Mg l L y (Cond.code y cc maxL ret :: qA) rm as σ Post :=
  Mg.ofW hy hlen (fun p e s m args below meth c ls hI S hr hk hK h hl => body p e s m args below meth c ls _ (fun _ _ h => h) hI S hr hk hK h hl)
/-- virtual calls with a relation for an end -/
theorem q_VR {Post : Option Value → St → Prop} (S : CallFix p m c cc nL s args qA own) (hI : Inj L) (hK : Kn L s) (h : Hd L s.heap H σ locs) {y : MethodName} {C : String} {T : u_T} {N ci maxL n : Nat} {bytes : ByteArray} {ret : Option FieldType} {rm : Room} (As : List Value) (hM : Mg l L y (Cond.code y bytes maxL ret :: qA) rm (.ref (ad L k) :: As) σ Post)
    (hk : kd k = ci) (hc : vwCl[ci]? = some (C, T, N)) (hci : ci < 8) (w1 : Cond.methodLink own index y ∈ qA) (w2 : Cond.instanceMethod y ∈ qA) (w3 : Cond.selects C y y ∈ qA) (w4 : Cond.initialized C ∈ qA) (w5 : Cond.code y bytes maxL ret ∈ qA)
    (hd : ydV y C n) (hn : As.length = n) (hR : rmFit rm R maxL cells slots) (hstk : st0 = As.reverse ++ .ref (ad L k) :: rest) (hrest : (rest.map fun v => v.category).sum ≤ 8) (hsz : ls.size = nL) (hdg : decode cc pc = .ok (.invokevirtual index, 3))
    (kk : ∀ (r : Option Value) (u : St) (H1 : Heap) (locs1 : List Loc), Post r u → Hd L s.heap H1 u locs1 → W p l e R s m args below meth c H1 locs1 cells slots Q (F0 m (pc + 3) ls (r.toList ++ rest))) : W p l e R s m args below meth c H locs cells slots Q (F0 m pc ls st0) := by
  obtain ⟨fs, hfs⟩ := clOf_n (L := L) (σ := σ) hk hci hc
  exact q_V S hI hK h hM hc hfs (kd_of hk (by omega)) w1 w2 w3 w4 w5 hd hn hR hstk hrest hsz hdg kk
end QSEL
end
section
theorem Ol_get {O : Nat → Nat} {i : Nat} (h : i < 4) : (Ol O).getD i 0 = nI (O i) := by
  rcases (show i = 0 ∨ i = 1 ∨ i = 2 ∨ i = 3 by omega) with rfl | rfl | rfl | rfl <;> rfl
abbrev rX5_digestAt : Room := { frames := 0, cells := 0, slots := 0, locals := 0 }
theorem yd_X5_digestAt : ydV yX5_digestAt RX5 1 := ⟨rfl, by decide +kernel, by decide +kernel, by decide +kernel⟩
set_option maxHeartbeats 4000000 in
set_option maxRecDepth 100000 in
theorem c_X5_digestAt (l : Launch) (L : Lay) (σ : St) {k i : Nat} (hk : kd k = 5) (hi : i < 3) : Mf l L yX5_digestAt (Cond.code yX5_digestAt cX5_digestAt 2 (some (FieldType.object "QuantileDigests$Digest")) :: qA) rX5_digestAt [.ref (ad L k), .int (nI i)] σ (some (.ref (ad L (k + 3 + 14 * i)))) σ := by
  refine Mf.ofW (by decide) (Nat.le_of_ble_eq_true rfl) ?_
  intro p e s m args below meth c ls post hp hI S hr hlk hK h hl
  have hx := S.1
  have hb := S.2.1
  have hok := h.ok
  have hl : lv_has ls 2 [(0, .ref (ad L k)), (1, .int (nI i))] := hl
  refine lv_iload_n hx hb dX5_digestAt_0 rfl (lv_at hl 1 rfl) ?_
  rcases (show i = 0 ∨ i = 1 ∨ i = 2 by omega) with rfl | rfl | rfl
  · refine lv_tableIn (tgt := 28) hx hb dX5_digestAt_1 (by decide) (by decide) rfl (by decide) ?_
    refine lv_aload_n hx hb dX5_digestAt_28 rfl (lv_at hl 0 rfl) ?_
    refine g_first S hK h hk q_104 dX5_digestAt_29 ?_
    exact e_a S hK h hr hlk (Or.inr ⟨_, rfl⟩) dX5_digestAt_32 hp
  · refine lv_tableIn (tgt := 33) hx hb dX5_digestAt_1 (by decide) (by decide) rfl (by decide) ?_
    refine lv_aload_n hx hb dX5_digestAt_33 rfl (lv_at hl 0 rfl) ?_
    refine g_second S hK h hk q_105 dX5_digestAt_34 ?_
    exact e_a S hK h hr hlk (Or.inr ⟨_, rfl⟩) dX5_digestAt_37 hp
  · refine lv_tableIn (tgt := 38) hx hb dX5_digestAt_1 (by decide) (by decide) rfl (by decide) ?_
    refine lv_aload_n hx hb dX5_digestAt_38 rfl (lv_at hl 0 rfl) ?_
    refine g_third S hK h hk q_106 dX5_digestAt_39 ?_
    exact e_a S hK h hr hlk (Or.inr ⟨_, rfl⟩) dX5_digestAt_42 hp

abbrev rX5_digestAt_n : Room := { frames := 0, cells := 0, slots := 0, locals := 0 }
set_option maxHeartbeats 4000000 in
set_option maxRecDepth 100000 in
theorem c_X5_digestAt_n (l : Launch) (L : Lay) (σ : St) {k : Nat} {x : Int32} (hk : kd k = 5) (hx2 : x.toInt < 0 ∨ 2 < x.toInt) : Mf l L yX5_digestAt (Cond.code yX5_digestAt cX5_digestAt 2 (some (FieldType.object "QuantileDigests$Digest")) :: qA) rX5_digestAt_n [.ref (ad L k), .int x] σ (some (.null)) σ := by
  refine Mf.ofW (by decide) (Nat.le_of_ble_eq_true rfl) ?_
  intro p e s m args below meth c ls post hp hI S hr hlk hK h hl
  have hx := S.1
  have hb := S.2.1
  have hok := h.ok
  have hl : lv_has ls 2 [(0, .ref (ad L k)), (1, .int x)] := hl
  refine lv_iload_n hx hb dX5_digestAt_0 rfl (lv_at hl 1 rfl) ?_
  refine lv_tableOut (tgt := 43) hx hb dX5_digestAt_1 hx2 (by decide) ?_
  refine lv_null hx hb dX5_digestAt_43 ?_
  exact e_a S hK h hr hlk (Or.inl rfl) dX5_digestAt_44 hp

abbrev rX5_weight : Room := { frames := 3, cells := 0, slots := 0, locals := 63 }
theorem yd_X5_weight : ydV yX5_weight RX5 0 := ⟨rfl, by decide +kernel, by decide +kernel, by decide +kernel⟩
set_option maxHeartbeats 4000000 in
set_option maxRecDepth 100000 in
theorem c_X5_weight (l : Launch) (L : Lay) (σ : St) {k : Nat} {X : SS} (hk : kd k = 5) (hv : SV σ k X) : Mf l L yX5_weight (Cond.code yX5_weight cX5_weight 1 (some FieldType.int) :: qA) rX5_weight [.ref (ad L k)] σ (some (.int (dW (X.2.2 0).1 (X.2.2 0).2.1 + dW (X.2.2 1).1 (X.2.2 1).2.1 + dW (X.2.2 2).1 (X.2.2 2).2.1))) σ := by
  refine Mf.ofW (by decide) (Nat.le_of_ble_eq_true rfl) ?_
  intro p e s m args below meth c ls post hp hI S hr hlk hK h hl
  have hx := S.1
  have hb := S.2.1
  have hok := h.ok
  have hl : lv_has ls 1 [(0, .ref (ad L k))] := hl
  refine lv_aload_n hx hb dX5_weight_0 rfl (lv_at hl 0 rfl) ?_
  refine g_first S hK h hk q_104 dX5_weight_1 ?_
  refine q_V1 (ci := 0) S hI hK h [] (c_X0_weight l L σ (kd5_1 hk) (hv.2 0 (by omega))) (kd5_1 hk) rfl (by decide) q_519 q_216 q_217 q_5 q_218 yd_X0_weight rfl ⟨⟨rfl, rfl⟩, ⟨(Nat.le_of_ble_eq_true rfl), (Nat.le_of_ble_eq_true rfl)⟩, Nat.le_refl _, Nat.le_refl _⟩ rfl (Nat.le_of_ble_eq_true rfl) hl.1 dX5_weight_4 (fun H locs h => ?_)
  refine lv_aload_n hx hb dX5_weight_7 rfl (lv_at hl 0 rfl) ?_
  refine g_second S hK h hk q_105 dX5_weight_8 ?_
  refine q_V1 (ci := 0) S hI hK h [] (c_X0_weight l L σ (kd5_2 hk) (hv.2 1 (by omega))) (kd5_2 hk) rfl (by decide) q_519 q_216 q_217 q_5 q_218 yd_X0_weight rfl ⟨⟨rfl, rfl⟩, ⟨(Nat.le_of_ble_eq_true rfl), (Nat.le_of_ble_eq_true rfl)⟩, Nat.le_refl _, Nat.le_refl _⟩ rfl (Nat.le_of_ble_eq_true rfl) hl.1 dX5_weight_11 (fun H locs h => ?_)
  refine lv_iadd hx hb dX5_weight_14 ?_
  refine lv_aload_n hx hb dX5_weight_15 rfl (lv_at hl 0 rfl) ?_
  refine g_third S hK h hk q_106 dX5_weight_16 ?_
  refine q_V1 (ci := 0) S hI hK h [] (c_X0_weight l L σ (kd5_3 hk) (hv.2 2 (by omega))) (kd5_3 hk) rfl (by decide) q_519 q_216 q_217 q_5 q_218 yd_X0_weight rfl ⟨⟨rfl, rfl⟩, ⟨(Nat.le_of_ble_eq_true rfl), (Nat.le_of_ble_eq_true rfl)⟩, Nat.le_refl _, Nat.le_refl _⟩ rfl (Nat.le_of_ble_eq_true rfl) hl.1 dX5_weight_19 (fun H locs h => ?_)
  refine lv_iadd hx hb dX5_weight_22 ?_
  exact e_i S hK h hr hlk dX5_weight_23 hp

abbrev rX5_heapCount : Room := { frames := 2, cells := 0, slots := 0, locals := 40 }
theorem yd_X5_heapCount : ydV yX5_heapCount RX5 0 := ⟨rfl, by decide +kernel, by decide +kernel, by decide +kernel⟩
set_option maxHeartbeats 4000000 in
set_option maxRecDepth 100000 in
theorem c_X5_heapCount (l : Launch) (L : Lay) (σ : St) {k : Nat} {X : SS} (hk : kd k = 5) (hv : SV σ k X) : Mf l L yX5_heapCount (Cond.code yX5_heapCount cX5_heapCount 1 (some FieldType.int) :: qA) rX5_heapCount [.ref (ad L k)] σ (some (.int (nI ((X.2.2 0).1.length + (X.2.2 1).1.length + (X.2.2 2).1.length)))) σ := by
  refine Mf.ofW (by decide) (Nat.le_of_ble_eq_true rfl) ?_
  intro p e s m args below meth c ls post hp hI S hr hlk hK h hl
  have hx := S.1
  have hb := S.2.1
  have hok := h.ok
  have hl : lv_has ls 1 [(0, .ref (ad L k))] := hl
  refine lv_aload_n hx hb dX5_heapCount_0 rfl (lv_at hl 0 rfl) ?_
  refine g_first S hK h hk q_104 dX5_heapCount_1 ?_
  refine g_heaps S hK h (kd5_1 hk) q_82 dX5_heapCount_4 ?_
  refine q_V1 (ci := 1) S hI hK h [] (c_X1_size l L σ (kd0_heaps (kd5_1 hk)) (hv.2 0 (by omega)).1) (kd0_heaps (kd5_1 hk)) rfl (by decide) q_524 q_297 q_298 q_6 q_299 yd_X1_size rfl ⟨⟨rfl, rfl⟩, ⟨(Nat.le_of_ble_eq_true rfl), (Nat.le_of_ble_eq_true rfl)⟩, Nat.le_refl _, Nat.le_refl _⟩ rfl (Nat.le_of_ble_eq_true rfl) hl.1 dX5_heapCount_7 (fun H locs h => ?_)
  refine lv_aload_n hx hb dX5_heapCount_10 rfl (lv_at hl 0 rfl) ?_
  refine g_second S hK h hk q_105 dX5_heapCount_11 ?_
  refine g_heaps S hK h (kd5_2 hk) q_82 dX5_heapCount_14 ?_
  refine q_V1 (ci := 1) S hI hK h [] (c_X1_size l L σ (kd0_heaps (kd5_2 hk)) (hv.2 1 (by omega)).1) (kd0_heaps (kd5_2 hk)) rfl (by decide) q_524 q_297 q_298 q_6 q_299 yd_X1_size rfl ⟨⟨rfl, rfl⟩, ⟨(Nat.le_of_ble_eq_true rfl), (Nat.le_of_ble_eq_true rfl)⟩, Nat.le_refl _, Nat.le_refl _⟩ rfl (Nat.le_of_ble_eq_true rfl) hl.1 dX5_heapCount_17 (fun H locs h => ?_)
  refine a_iadd hx hb dX5_heapCount_20 ?_
  refine lv_aload_n hx hb dX5_heapCount_21 rfl (lv_at hl 0 rfl) ?_
  refine g_third S hK h hk q_106 dX5_heapCount_22 ?_
  refine g_heaps S hK h (kd5_3 hk) q_82 dX5_heapCount_25 ?_
  refine q_V1 (ci := 1) S hI hK h [] (c_X1_size l L σ (kd0_heaps (kd5_3 hk)) (hv.2 2 (by omega)).1) (kd0_heaps (kd5_3 hk)) rfl (by decide) q_524 q_297 q_298 q_6 q_299 yd_X1_size rfl ⟨⟨rfl, rfl⟩, ⟨(Nat.le_of_ble_eq_true rfl), (Nat.le_of_ble_eq_true rfl)⟩, Nat.le_refl _, Nat.le_refl _⟩ rfl (Nat.le_of_ble_eq_true rfl) hl.1 dX5_heapCount_28 (fun H locs h => ?_)
  refine a_iadd hx hb dX5_heapCount_31 ?_
  exact e_i S hK h hr hlk dX5_heapCount_32 hp

abbrev rX5_copyFrom : Room := { frames := 4, cells := 0, slots := 0, locals := 123 }
theorem yd_X5_copyFrom : ydV yX5_copyFrom RX5 1 := ⟨rfl, by decide +kernel, by decide +kernel, by decide +kernel⟩
set_option maxHeartbeats 4000000 in
set_option maxRecDepth 100000 in
theorem c_X5_copyFrom (l : Launch) (L : Lay) (σ : St) {k k2 : Nat} {X : SS} (hk : kd k = 5) (hk2 : kd k2 = 5) (hap : k + 45 ≤ k2 ∨ k2 + 45 ≤ k) (hv2 : SV σ k2 X) : Mf l L yX5_copyFrom (Cond.code yX5_copyFrom cX5_copyFrom 2 none :: qA) rX5_copyFrom [.ref (ad L k), .ref (ad L k2)] σ none (sset σ k X) := by
  refine Mf.ofW (by decide) (Nat.le_of_ble_eq_true rfl) ?_
  intro p e s m args below meth c ls post hp hI S hr hlk hK h hl
  have hx := S.1
  have hb := S.2.1
  have hok := h.ok
  have hl : lv_has ls 2 [(0, .ref (ad L k)), (1, .ref (ad L k2))] := hl
  have hc := (kd_5h k (kd_of hk) hk).2.2.2.2.1
  have e1 := hv2.1
  refine lv_aload_n hx hb dX5_copyFrom_0 rfl (lv_at hl 0 rfl) ?_
  refine g_settings S hK h hk q_102 dX5_copyFrom_1 ?_
  refine lv_aload_n hx hb dX5_copyFrom_4 rfl (lv_at hl 1 rfl) ?_
  refine g_settings S hK h hk2 q_102 dX5_copyFrom_5 ?_
  refine q_V0 (ci := 4) S hI hK h [.ref (ad L (k2 + 1))] (c_X4_copyFrom l L σ (kd5_s hk) (kd5_s hk2) (by omega) (by rw [e1, hc]; exact Nat.le_refl 2)) (kd5_s hk) rfl (by decide) q_248 q_249 q_250 q_3 q_251 yd_X4_copyFrom rfl ⟨⟨rfl, rfl⟩, ⟨(Nat.le_of_ble_eq_true rfl), (Nat.le_of_ble_eq_true rfl)⟩, Nat.le_refl _, Nat.le_refl _⟩ rfl (Nat.le_of_ble_eq_true rfl) hl.1 dX5_copyFrom_8 (fun H locs h => ?_)
  have h := h.to (show up σ (k + 1) (σ (k2 + 1)) = up σ (k + 1) [X.1, X.2.1] from (by rw [e1]))
  have hv3 : SV (up σ (k + 1) [X.1, X.2.1]) k2 X := hv2.congr (fun j h1 h2 => up_n (by omega))
  refine lv_aload_n hx hb dX5_copyFrom_11 rfl (lv_at hl 0 rfl) ?_
  refine g_first S hK h hk q_104 dX5_copyFrom_12 ?_
  refine lv_aload_n hx hb dX5_copyFrom_15 rfl (lv_at hl 1 rfl) ?_
  refine g_first S hK h hk2 q_104 dX5_copyFrom_16 ?_
  refine q_V0 (ci := 0) S hI hK h [.ref (ad L (k2 + 3))] (c_X0_copyFrom l L (up σ (k + 1) [X.1, X.2.1]) (kd5_1 hk) (kd5_1 hk2) (by omega) (hv3.2 0 (by omega))) (kd5_1 hk) rfl (by decide) q_258 q_259 q_260 q_5 q_261 yd_X0_copyFrom rfl ⟨⟨rfl, rfl⟩, ⟨(Nat.le_of_ble_eq_true rfl), (Nat.le_of_ble_eq_true rfl)⟩, Nat.le_refl _, Nat.le_refl _⟩ rfl (Nat.le_of_ble_eq_true rfl) hl.1 dX5_copyFrom_19 (fun H locs h => ?_)
  have hv4 : SV (dx (up σ (k + 1) [X.1, X.2.1]) (k + 3) (X.2.2 0)) k2 X := hv3.congr (fun j h1 h2 => dset_n (by omega))
  refine lv_aload_n hx hb dX5_copyFrom_22 rfl (lv_at hl 0 rfl) ?_
  refine g_second S hK h hk q_105 dX5_copyFrom_23 ?_
  refine lv_aload_n hx hb dX5_copyFrom_26 rfl (lv_at hl 1 rfl) ?_
  refine g_second S hK h hk2 q_105 dX5_copyFrom_27 ?_
  refine q_V0 (ci := 0) S hI hK h [.ref (ad L (k2 + 17))] (c_X0_copyFrom l L (dset (up σ (k + 1) [X.1, X.2.1]) (k + 3) (X.2.2 0).1 (X.2.2 0).2.1 (X.2.2 0).2.2.1 (X.2.2 0).2.2.2) (kd5_2 hk) (kd5_2 hk2) (by omega) (hv4.2 1 (by omega))) (kd5_2 hk) rfl (by decide) q_258 q_259 q_260 q_5 q_261 yd_X0_copyFrom rfl ⟨⟨rfl, rfl⟩, ⟨(Nat.le_of_ble_eq_true rfl), (Nat.le_of_ble_eq_true rfl)⟩, Nat.le_refl _, Nat.le_refl _⟩ rfl (Nat.le_of_ble_eq_true rfl) hl.1 dX5_copyFrom_30 (fun H locs h => ?_)
  have hv5 : SV (dx (dx (up σ (k + 1) [X.1, X.2.1]) (k + 3) (X.2.2 0)) (k + 17) (X.2.2 1)) k2 X := hv4.congr (fun j h1 h2 => dset_n (by omega))
  refine lv_aload_n hx hb dX5_copyFrom_33 rfl (lv_at hl 0 rfl) ?_
  refine g_third S hK h hk q_106 dX5_copyFrom_34 ?_
  refine lv_aload_n hx hb dX5_copyFrom_37 rfl (lv_at hl 1 rfl) ?_
  refine g_third S hK h hk2 q_106 dX5_copyFrom_38 ?_
  refine q_V0 (ci := 0) S hI hK h [.ref (ad L (k2 + 31))] (c_X0_copyFrom l L (dset (dset (up σ (k + 1) [X.1, X.2.1]) (k + 3) (X.2.2 0).1 (X.2.2 0).2.1 (X.2.2 0).2.2.1 (X.2.2 0).2.2.2) (k + 17) (X.2.2 1).1 (X.2.2 1).2.1 (X.2.2 1).2.2.1 (X.2.2 1).2.2.2) (kd5_3 hk) (kd5_3 hk2) (by omega) (hv5.2 2 (by omega))) (kd5_3 hk) rfl (by decide) q_258 q_259 q_260 q_5 q_261 yd_X0_copyFrom rfl ⟨⟨rfl, rfl⟩, ⟨(Nat.le_of_ble_eq_true rfl), (Nat.le_of_ble_eq_true rfl)⟩, Nat.le_refl _, Nat.le_refl _⟩ rfl (Nat.le_of_ble_eq_true rfl) hl.1 dX5_copyFrom_41 (fun H locs h => ?_)
  exact e_v S hK h hr hlk dX5_copyFrom_44 hp

abbrev rX2_size : Room := { frames := 0, cells := 0, slots := 0, locals := 0 }
theorem yd_X2_size : ydV yX2_size RX2 0 := ⟨rfl, by decide +kernel, by decide +kernel, by decide +kernel⟩
set_option maxHeartbeats 4000000 in
set_option maxRecDepth 100000 in
theorem c_X2_size (l : Launch) (L : Lay) (σ : St) (n : Int32) (hn : σ 225 = [n]) : Mf l L yX2_size (Cond.code yX2_size cX2_size 1 (some FieldType.int) :: qA) rX2_size [.ref (ad L 225)] σ (some (.int n)) σ := by
  refine Mf.ofW (by decide) (Nat.le_of_ble_eq_true rfl) ?_
  intro p e s m args below meth c ls post hp hI S hr hlk hK h hl
  have hx := S.1
  have hb := S.2.1
  have hok := h.ok
  have hl : lv_has ls 1 [(0, .ref (ad L 225))] := hl
  refine lv_aload_n hx hb dX2_size_0 rfl (lv_at hl 0 rfl) ?_
  refine g_size S hK h (by decide) q_126 dX2_size_1 ?_
  refine cv_i (show ((σ 225).getD 0 0 : Int32) = n from (by rw [hn]; rfl)) ?_
  exact e_i S hK h hr hlk dX2_size_4 hp

abbrev rX2_stateAt : Room := { frames := 0, cells := 0, slots := 0, locals := 0 }
theorem yd_X2_stateAt : ydV yX2_stateAt RX2 1 := ⟨rfl, by decide +kernel, by decide +kernel, by decide +kernel⟩
set_option maxHeartbeats 4000000 in
set_option maxRecDepth 100000 in
theorem c_X2_stateAt (l : Launch) (L : Lay) (σ : St) {i o : Nat} (hi : i < 4) (ho : (σ 226).getD i 0 = nI o) (ho2 : o < 5) : Mf l L yX2_stateAt (Cond.code yX2_stateAt cX2_stateAt 2 (some (FieldType.object "QuantileDigests$State")) :: qA) rX2_stateAt [.ref (ad L 225), .int (nI i)] σ (some (.ref (ad L (45 * o)))) σ := by
  refine Mf.ofW (by decide) (Nat.le_of_ble_eq_true rfl) ?_
  intro p e s m args below meth c ls post hp hI S hr hlk hK h hl
  have hx := S.1
  have hb := S.2.1
  have hok := h.ok
  have hl : lv_has ls 2 [(0, .ref (ad L 225)), (1, .int (nI i))] := hl
  refine lv_iload_n hx hb dX2_stateAt_0 rfl (lv_at hl 1 rfl) ?_
  refine b_if_lt (tgt := 22) hx hb dX2_stateAt_1 (by decide) (by omega) ?_
  refine lv_iload_n hx hb dX2_stateAt_4 rfl (lv_at hl 1 rfl) ?_
  refine lv_aload_n hx hb dX2_stateAt_5 rfl (lv_at hl 0 rfl) ?_
  refine g_states S hK h (by decide) q_125 dX2_stateAt_6 ?_
  refine g_salen S hK h (by decide) dX2_stateAt_9 ?_
  refine b_icmp_ge (tgt := 22) hx hb dX2_stateAt_10 (by decide) (by omega) (by omega) (fun c_10 => absurd c_10 (by omega)) (fun c_10 => ?_)
  refine lv_aload_n hx hb dX2_stateAt_13 rfl (lv_at hl 0 rfl) ?_
  refine g_states S hK h (by decide) q_125 dX2_stateAt_14 ?_
  refine lv_iload_n hx hb dX2_stateAt_17 rfl (lv_at hl 1 rfl) ?_
  refine g_sel (o := o) S hK h (by decide) hi ho ho2 dX2_stateAt_18 ?_
  refine lv_goto (tgt := 23) hx hb dX2_stateAt_19 (by decide) ?_
  exact e_a S hK h hr hlk (Or.inr ⟨_, rfl⟩) dX2_stateAt_23 hp

abbrev rX2_dropOldest : Room := { frames := 0, cells := 0, slots := 0, locals := 0 }
theorem yd_X2_dropOldest : ydV yX2_dropOldest RX2 0 := ⟨rfl, by decide +kernel, by decide +kernel, by decide +kernel⟩
set_option maxHeartbeats 4000000 in
set_option maxRecDepth 100000 in
theorem c_X2_dropOldest (l : Launch) (L : Lay) (σ : St) {a b c1 d1 n : Nat} (ho : σ 226 = [nI a, nI b, nI c1, nI d1]) (ha : a < 5) (hb1 : b < 5) (hc1 : c1 < 5) (hd1 : d1 < 5) (hn : σ 225 = [nI (n + 1)]) : Mf l L yX2_dropOldest (Cond.code yX2_dropOldest cX2_dropOldest 3 none :: qA) rX2_dropOldest [.ref (ad L 225)] σ none (up (up σ 226 [nI b, nI c1, nI d1, nI a]) 225 [nI n]) := by
  refine Mf.ofW (by decide) (Nat.le_of_ble_eq_true rfl) ?_
  intro p e s m args below meth c ls post hp hI S hr hlk hK h hl
  have hx := S.1
  have hb := S.2.1
  have hok := h.ok
  have hl : lv_has ls 3 [(0, .ref (ad L 225))] := hl
  refine lv_iconst (v := (nI 1)) hx hb dX2_dropOldest_0 (by decide) ?_
  refine lv_istore_n (lv' := [(1, .int (nI 1)), (0, .ref (ad L 225))]) hx hb dX2_dropOldest_1 rfl hl (by decide) rfl (fun ls hl => ?_)
  refine lv_iload_n hx hb dX2_dropOldest_2 rfl (lv_at hl 0 rfl) ?_
  refine lv_aload_n hx hb dX2_dropOldest_3 rfl (lv_at hl 1 rfl) ?_
  refine g_states S hK h (by decide) q_125 dX2_dropOldest_4 ?_
  refine g_salen S hK h (by decide) dX2_dropOldest_7 ?_
  refine b_icmp_ge (tgt := 47) hx hb dX2_dropOldest_8 (by decide) (by decide) (by decide) (fun c9 => absurd c9 (by decide)) (fun _ => ?_)
  refine lv_aload_n hx hb dX2_dropOldest_11 rfl (lv_at hl 1 rfl) ?_
  refine g_states S hK h (by decide) q_125 dX2_dropOldest_12 ?_
  refine lv_iload_n hx hb dX2_dropOldest_15 rfl (lv_at hl 0 rfl) ?_
  refine lv_iconst (v := (nI 1)) hx hb dX2_dropOldest_16 (by decide) ?_
  refine a_isub hx hb dX2_dropOldest_17 (by omega) ?_
  refine g_sel (o := a) S hK h (by decide) (by omega) (by rw [ho]; rfl) ha dX2_dropOldest_18 ?_
  refine lv_astore_n (lv' := [(2, .ref (ad L (45 * a))), (1, .int (nI 1)), (0, .ref (ad L 225))]) hx hb dX2_dropOldest_19 rfl hl (by decide) rfl (fun ls hl => ?_)
  refine lv_aload_n hx hb dX2_dropOldest_20 rfl (lv_at hl 2 rfl) ?_
  refine g_states S hK h (by decide) q_125 dX2_dropOldest_21 ?_
  refine lv_iload_n hx hb dX2_dropOldest_24 rfl (lv_at hl 1 rfl) ?_
  refine lv_iconst (v := (nI 1)) hx hb dX2_dropOldest_25 (by decide) ?_
  refine a_isub hx hb dX2_dropOldest_26 (by omega) ?_
  refine lv_aload_n hx hb dX2_dropOldest_27 rfl (lv_at hl 2 rfl) ?_
  refine g_states S hK h (by decide) q_125 dX2_dropOldest_28 ?_
  refine lv_iload_n hx hb dX2_dropOldest_31 rfl (lv_at hl 1 rfl) ?_
  refine g_sel (o := b) S hK h (by decide) (by omega) (by rw [ho]; rfl) hb1 dX2_dropOldest_32 ?_
  refine p_sel (o := b) S hI hK h (by decide) (by omega) (by rw [ho]; rfl) hb1 dX2_dropOldest_33 (fun H locs h => ?_)
  have h := h.to (show up σ 226 ((σ 226).set 0 (nI b)) = up σ 226 [nI b, nI b, nI c1, nI d1] from by rw [ho]; exact rfl)
  refine lv_aload_n hx hb dX2_dropOldest_34 rfl (lv_at hl 2 rfl) ?_
  refine g_states S hK h (by decide) q_125 dX2_dropOldest_35 ?_
  refine lv_iload_n hx hb dX2_dropOldest_38 rfl (lv_at hl 1 rfl) ?_
  refine lv_aload_n hx hb dX2_dropOldest_39 rfl (lv_at hl 0 rfl) ?_
  refine p_sel (o := a) S hI hK h (by decide) (by omega) (by rw [up_s]; rfl) ha dX2_dropOldest_40 (fun H locs h => ?_)
  have h := h.to (show up (up σ 226 [nI b, nI b, nI c1, nI d1]) 226 (((up σ 226 [nI b, nI b, nI c1, nI d1]) 226).set 1 (nI a)) = up σ 226 [nI b, nI a, nI c1, nI d1] from by rw [up_s]; rw [up_up]; exact rfl)
  refine lv_iinc (v := (nI 2)) (lv' := [(1, .int (nI 2)), (2, .ref (ad L (45 * a))), (0, .ref (ad L 225))]) hx hb dX2_dropOldest_41 hl (k := 1) rfl (iinc_k 1 1) (by decide) rfl (fun ls hl => ?_)
  refine lv_goto (tgt := 2) hx hb dX2_dropOldest_44 (by decide) ?_
  refine lv_iload_n hx hb dX2_dropOldest_2 rfl (lv_at hl 0 rfl) ?_
  refine lv_aload_n hx hb dX2_dropOldest_3 rfl (lv_at hl 2 rfl) ?_
  refine g_states S hK h (by decide) q_125 dX2_dropOldest_4 ?_
  refine g_salen S hK h (by decide) dX2_dropOldest_7 ?_
  refine b_icmp_ge (tgt := 47) hx hb dX2_dropOldest_8 (by decide) (by decide) (by decide) (fun c9 => absurd c9 (by decide)) (fun _ => ?_)
  refine lv_aload_n hx hb dX2_dropOldest_11 rfl (lv_at hl 2 rfl) ?_
  refine g_states S hK h (by decide) q_125 dX2_dropOldest_12 ?_
  refine lv_iload_n hx hb dX2_dropOldest_15 rfl (lv_at hl 0 rfl) ?_
  refine lv_iconst (v := (nI 1)) hx hb dX2_dropOldest_16 (by decide) ?_
  refine a_isub hx hb dX2_dropOldest_17 (by omega) ?_
  refine g_sel (o := a) S hK h (by decide) (by omega) (by rw [up_s]; rfl) ha dX2_dropOldest_18 ?_
  refine lv_astore_n (lv' := [(2, .ref (ad L (45 * a))), (1, .int (nI 2)), (0, .ref (ad L 225))]) hx hb dX2_dropOldest_19 rfl hl (by decide) rfl (fun ls hl => ?_)
  refine lv_aload_n hx hb dX2_dropOldest_20 rfl (lv_at hl 2 rfl) ?_
  refine g_states S hK h (by decide) q_125 dX2_dropOldest_21 ?_
  refine lv_iload_n hx hb dX2_dropOldest_24 rfl (lv_at hl 1 rfl) ?_
  refine lv_iconst (v := (nI 1)) hx hb dX2_dropOldest_25 (by decide) ?_
  refine a_isub hx hb dX2_dropOldest_26 (by omega) ?_
  refine lv_aload_n hx hb dX2_dropOldest_27 rfl (lv_at hl 2 rfl) ?_
  refine g_states S hK h (by decide) q_125 dX2_dropOldest_28 ?_
  refine lv_iload_n hx hb dX2_dropOldest_31 rfl (lv_at hl 1 rfl) ?_
  refine g_sel (o := c1) S hK h (by decide) (by omega) (by rw [up_s]; rfl) hc1 dX2_dropOldest_32 ?_
  refine p_sel (o := c1) S hI hK h (by decide) (by omega) (by rw [up_s]; rfl) hc1 dX2_dropOldest_33 (fun H locs h => ?_)
  have h := h.to (show up (up σ 226 [nI b, nI a, nI c1, nI d1]) 226 (((up σ 226 [nI b, nI a, nI c1, nI d1]) 226).set 1 (nI c1)) = up σ 226 [nI b, nI c1, nI c1, nI d1] from by rw [up_s]; rw [up_up]; exact rfl)
  refine lv_aload_n hx hb dX2_dropOldest_34 rfl (lv_at hl 2 rfl) ?_
  refine g_states S hK h (by decide) q_125 dX2_dropOldest_35 ?_
  refine lv_iload_n hx hb dX2_dropOldest_38 rfl (lv_at hl 1 rfl) ?_
  refine lv_aload_n hx hb dX2_dropOldest_39 rfl (lv_at hl 0 rfl) ?_
  refine p_sel (o := a) S hI hK h (by decide) (by omega) (by rw [up_s]; rfl) ha dX2_dropOldest_40 (fun H locs h => ?_)
  have h := h.to (show up (up σ 226 [nI b, nI c1, nI c1, nI d1]) 226 (((up σ 226 [nI b, nI c1, nI c1, nI d1]) 226).set 2 (nI a)) = up σ 226 [nI b, nI c1, nI a, nI d1] from by rw [up_s]; rw [up_up]; exact rfl)
  refine lv_iinc (v := (nI 3)) (lv' := [(1, .int (nI 3)), (2, .ref (ad L (45 * a))), (0, .ref (ad L 225))]) hx hb dX2_dropOldest_41 hl (k := 1) rfl (iinc_k 2 1) (by decide) rfl (fun ls hl => ?_)
  refine lv_goto (tgt := 2) hx hb dX2_dropOldest_44 (by decide) ?_
  refine lv_iload_n hx hb dX2_dropOldest_2 rfl (lv_at hl 0 rfl) ?_
  refine lv_aload_n hx hb dX2_dropOldest_3 rfl (lv_at hl 2 rfl) ?_
  refine g_states S hK h (by decide) q_125 dX2_dropOldest_4 ?_
  refine g_salen S hK h (by decide) dX2_dropOldest_7 ?_
  refine b_icmp_ge (tgt := 47) hx hb dX2_dropOldest_8 (by decide) (by decide) (by decide) (fun c9 => absurd c9 (by decide)) (fun _ => ?_)
  refine lv_aload_n hx hb dX2_dropOldest_11 rfl (lv_at hl 2 rfl) ?_
  refine g_states S hK h (by decide) q_125 dX2_dropOldest_12 ?_
  refine lv_iload_n hx hb dX2_dropOldest_15 rfl (lv_at hl 0 rfl) ?_
  refine lv_iconst (v := (nI 1)) hx hb dX2_dropOldest_16 (by decide) ?_
  refine a_isub hx hb dX2_dropOldest_17 (by omega) ?_
  refine g_sel (o := a) S hK h (by decide) (by omega) (by rw [up_s]; rfl) ha dX2_dropOldest_18 ?_
  refine lv_astore_n (lv' := [(2, .ref (ad L (45 * a))), (1, .int (nI 3)), (0, .ref (ad L 225))]) hx hb dX2_dropOldest_19 rfl hl (by decide) rfl (fun ls hl => ?_)
  refine lv_aload_n hx hb dX2_dropOldest_20 rfl (lv_at hl 2 rfl) ?_
  refine g_states S hK h (by decide) q_125 dX2_dropOldest_21 ?_
  refine lv_iload_n hx hb dX2_dropOldest_24 rfl (lv_at hl 1 rfl) ?_
  refine lv_iconst (v := (nI 1)) hx hb dX2_dropOldest_25 (by decide) ?_
  refine a_isub hx hb dX2_dropOldest_26 (by omega) ?_
  refine lv_aload_n hx hb dX2_dropOldest_27 rfl (lv_at hl 2 rfl) ?_
  refine g_states S hK h (by decide) q_125 dX2_dropOldest_28 ?_
  refine lv_iload_n hx hb dX2_dropOldest_31 rfl (lv_at hl 1 rfl) ?_
  refine g_sel (o := d1) S hK h (by decide) (by omega) (by rw [up_s]; rfl) hd1 dX2_dropOldest_32 ?_
  refine p_sel (o := d1) S hI hK h (by decide) (by omega) (by rw [up_s]; rfl) hd1 dX2_dropOldest_33 (fun H locs h => ?_)
  have h := h.to (show up (up σ 226 [nI b, nI c1, nI a, nI d1]) 226 (((up σ 226 [nI b, nI c1, nI a, nI d1]) 226).set 2 (nI d1)) = up σ 226 [nI b, nI c1, nI d1, nI d1] from by rw [up_s]; rw [up_up]; exact rfl)
  refine lv_aload_n hx hb dX2_dropOldest_34 rfl (lv_at hl 2 rfl) ?_
  refine g_states S hK h (by decide) q_125 dX2_dropOldest_35 ?_
  refine lv_iload_n hx hb dX2_dropOldest_38 rfl (lv_at hl 1 rfl) ?_
  refine lv_aload_n hx hb dX2_dropOldest_39 rfl (lv_at hl 0 rfl) ?_
  refine p_sel (o := a) S hI hK h (by decide) (by omega) (by rw [up_s]; rfl) ha dX2_dropOldest_40 (fun H locs h => ?_)
  have h := h.to (show up (up σ 226 [nI b, nI c1, nI d1, nI d1]) 226 (((up σ 226 [nI b, nI c1, nI d1, nI d1]) 226).set 3 (nI a)) = up σ 226 [nI b, nI c1, nI d1, nI a] from by rw [up_s]; rw [up_up]; exact rfl)
  refine lv_iinc (v := (nI 4)) (lv' := [(1, .int (nI 4)), (2, .ref (ad L (45 * a))), (0, .ref (ad L 225))]) hx hb dX2_dropOldest_41 hl (k := 1) rfl (iinc_k 3 1) (by decide) rfl (fun ls hl => ?_)
  refine lv_goto (tgt := 2) hx hb dX2_dropOldest_44 (by decide) ?_
  refine lv_iload_n hx hb dX2_dropOldest_2 rfl (lv_at hl 0 rfl) ?_
  refine lv_aload_n hx hb dX2_dropOldest_3 rfl (lv_at hl 2 rfl) ?_
  refine g_states S hK h (by decide) q_125 dX2_dropOldest_4 ?_
  refine g_salen S hK h (by decide) dX2_dropOldest_7 ?_
  refine b_icmp_ge (tgt := 47) hx hb dX2_dropOldest_8 (by decide) (by decide) (by decide) (fun _ => ?_) (fun c9 => absurd c9 (by decide))
  refine lv_aload_n hx hb dX2_dropOldest_47 rfl (lv_at hl 2 rfl) ?_
  refine lv_dup hx hb dX2_dropOldest_48 rfl ?_
  refine g_size S hK h (by decide) q_126 dX2_dropOldest_49 ?_
  refine cv_i (show (((up σ 226 [nI b, nI c1, nI d1, nI a]) 225).getD 0 0 : Int32) = nI (n + 1) from (by rw [up_n (by omega), hn]; rfl)) ?_
  refine lv_iconst (v := (nI 1)) hx hb dX2_dropOldest_52 (by decide) ?_
  refine a_isub hx hb dX2_dropOldest_53 (by omega) ?_
  refine cv_i (show (nI ((n + 1) - 1) : Int32) = nI n from (by rw [Nat.add_sub_cancel])) ?_
  refine p_size S hI hK h (by decide) q_126 dX2_dropOldest_54 (fun H locs h => ?_)
  exact e_v S hK h hr hlk dX2_dropOldest_57 hp

abbrev rX2_record : Room := { frames := 5, cells := 0, slots := 0, locals := 144 }
theorem yd_X2_record : ydV yX2_record RX2 1 := ⟨rfl, by decide +kernel, by decide +kernel, by decide +kernel⟩
set_option maxHeartbeats 4000000 in
set_option maxRecDepth 100000 in
theorem c_X2_record (l : Launch) (L : Lay) (σ : St) {X : SS} {hh : List SS} {t : List Int32} (hc : CR σ X hh t) : Mg l L yX2_record (Cond.code yX2_record cX2_record 3 none :: qA) rX2_record [.ref (ad L 225), .ref (ad L 0)] σ (fun r u => r = none ∧ CR u X (recH hh X) t ∧ ∀ j, 227 ≤ j → u j = σ j) := by
  refine Mr_ofW (by decide) (Nat.le_of_ble_eq_true rfl) ?_
  intro p e s m args below meth c ls post hp hI S hr hlk hK h hl
  have hx := S.1
  have hb := S.2.1
  have hok := h.ok
  have hl : lv_has ls 3 [(0, .ref (ad L 225)), (1, .ref (ad L 0))] := hl
  obtain ⟨hX, ⟨O, hO, hs⟩, ht⟩ := hc
  have hs2 := hs
  obtain ⟨h4, hn, h226, hall⟩ := hs
  refine lv_aload_n hx hb dX2_record_0 rfl (lv_at hl 0 rfl) ?_
  refine g_size S hK h (by decide) q_126 dX2_record_1 ?_
  refine cv_i (show ((σ 225).getD 0 0 : Int32) = nI hh.length from (by rw [hn]; rfl)) ?_
  have CT_16 : ∀ (O1 : Nat → Nat) (h1 : List SS) (σ1 : St) (H : Heap) (locs : List Loc) (ls : Array Slot), (OK4 O1) → (HS σ1 O1 h1) → (h1.length < 4) → (SV σ1 0 X) → (σ1 227 = t) → (∀ j, 227 ≤ j → σ1 j = σ j) → (h1 ++ [X] = recH hh X) → Hd L s.heap H σ1 locs → lv_has ls 3 [(0, .ref (ad L 225)), (1, .ref (ad L 0))] → W p l e rX2_record s m args below meth c H locs 0 0 (MQ below (Qg post (bs L) (Aw L)) args s 0 0 (Aw L)) (F0 m 16 ls []) := by
    intro O1 h1 σ1 H locs ls hO1 hs1 hl1 hX1 ht1 hj1 he1 h hl
    have hok := h.ok
    obtain ⟨g4, gn, g226, gall⟩ := id hs1
    have hoo := hO1.1 _ hl1
    have hgo : (σ1 226).getD h1.length 0 = nI (O1 h1.length) := by rw [g226]; exact Ol_get hl1
    refine lv_aload_n hx hb dX2_record_16 rfl (lv_at hl 0 rfl) ?_
    refine lv_aload_n hx hb dX2_record_17 rfl (lv_at hl 0 rfl) ?_
    refine g_size S hK h (by decide) q_126 dX2_record_18 ?_
    refine cv_i (show ((σ1 225).getD 0 0 : Int32) = nI h1.length from (by rw [gn]; rfl)) ?_
    refine q_V1 (ci := 2) S hI hK h [.int (nI h1.length)] (c_X2_stateAt l L σ1 hl1 hgo (show O1 h1.length < 5 from by omega)) (by decide) rfl (by decide) q_240 q_242 qs_1 q_7 q_243 yd_X2_stateAt rfl ⟨⟨rfl, rfl⟩, ⟨(Nat.le_of_ble_eq_true rfl), (Nat.le_of_ble_eq_true rfl)⟩, Nat.le_refl _, Nat.le_refl _⟩ rfl (Nat.le_of_ble_eq_true rfl) hl.1 dX2_record_21 (fun H locs h => ?_)
    refine lv_astore_n (lv' := [(2, .ref (ad L (45 * (O1 h1.length)))), (0, .ref (ad L 225)), (1, .ref (ad L 0))]) hx hb dX2_record_24 rfl hl (by decide) rfl (fun ls hl => ?_)
    refine lv_aload_n hx hb dX2_record_25 rfl (lv_at hl 0 rfl) ?_
    refine lv_ifnull hx hb dX2_record_26 ?_
    refine lv_aload_n hx hb dX2_record_29 rfl (lv_at hl 0 rfl) ?_
    refine lv_aload_n hx hb dX2_record_30 rfl (lv_at hl 2 rfl) ?_
    refine q_V0 (ci := 5) S hI hK h [.ref (ad L 0)] (c_X5_copyFrom l L σ1 (kd45 (show O1 h1.length < 5 from by omega)) (by decide) (by omega) hX1) (kd45 (show O1 h1.length < 5 from by omega)) rfl (by decide) q_244 q_245 q_246 q_2 q_247 yd_X5_copyFrom rfl ⟨⟨rfl, rfl⟩, ⟨(Nat.le_of_ble_eq_true rfl), (Nat.le_of_ble_eq_true rfl)⟩, Nat.le_refl _, Nat.le_refl _⟩ rfl (Nat.le_of_ble_eq_true rfl) hl.1 dX2_record_31 (fun H locs h => ?_)
    refine lv_aload_n hx hb dX2_record_34 rfl (lv_at hl 1 rfl) ?_
    refine lv_dup hx hb dX2_record_35 rfl ?_
    refine g_size S hK h (by decide) q_126 dX2_record_36 ?_
    refine cv_i (show (((sset σ1 (45 * (O1 h1.length)) X) 225).getD 0 0 : Int32) = nI h1.length from (by rw [sset_n (by omega), gn]; rfl)) ?_
    refine lv_iconst (v := (nI 1)) hx hb dX2_record_39 (by decide) ?_
    refine a_iadd hx hb dX2_record_40 ?_
    refine p_size S hI hK h (by decide) q_126 dX2_record_41 (fun H locs h => ?_)
    exact e_v S hK h hr hlk dX2_record_44 (hp _ _ ⟨rfl, by rw [← he1]; exact ⟨hX1.congr (fun j h1 h2 => by rw [up_n (by omega), sset_n (by omega)]), ⟨O1, hO1, HS_push hO1 hs1 hl1⟩, by rw [up_n (by omega), sset_n (by omega)]; exact ht1⟩, fun j hj => by rw [up_n (by omega), sset_n (by omega)]; exact hj1 j hj⟩)
  refine lv_aload_n hx hb dX2_record_4 rfl (lv_at hl 0 rfl) ?_
  refine g_states S hK h (by decide) q_125 dX2_record_5 ?_
  refine g_salen S hK h (by decide) dX2_record_8 ?_
  refine b_icmp_lt (tgt := 16) hx hb dX2_record_9 (by decide) (by omega) (by omega) (fun c_9 => ?_) (fun c_9 => ?_)
  · exact CT_16 O hh σ _ _ _ hO hs2 c_9 hX ht (fun _ _ => rfl) (by rw [recH, if_pos c_9]) h (lv_sub hl [0, 1] rfl)
  · have e4 : hh.length = 4 := by omega
    refine lv_aload_n hx hb dX2_record_12 rfl (lv_at hl 0 rfl) ?_
    refine q_V0 (ci := 2) S hI hK h [] (c_X2_dropOldest l L σ h226 (by have := (hO.1 0 (by omega)).2; omega) (by have := (hO.1 1 (by omega)).2; omega) (by have := (hO.1 2 (by omega)).2; omega) (by have := (hO.1 3 (by omega)).2; omega) (show σ 225 = [nI (3 + 1)] from by rw [hn, e4])) (by decide) rfl (by decide) q_236 q_238 qs_0 q_7 q_239 yd_X2_dropOldest rfl ⟨⟨rfl, rfl⟩, ⟨(Nat.le_of_ble_eq_true rfl), (Nat.le_of_ble_eq_true rfl)⟩, Nat.le_refl _, Nat.le_refl _⟩ rfl (Nat.le_of_ble_eq_true rfl) hl.1 dX2_record_13 (fun H locs h => ?_)
    exact CT_16 (rot O) hh.tail (up (up σ 226 (Ol (rot O))) 225 [nI 3]) _ _ _ (rot_OK hO) (HS_drop hO hs2 e4) (by rw [List.length_tail]; omega) (hX.congr (fun j h1 h2 => by rw [up_n (by omega), up_n (by omega)])) (by rw [up_n (by omega), up_n (by omega)]; exact ht) (fun j hj => by rw [up_n (by omega), up_n (by omega)]) (by rw [recH, if_neg (by omega)]) h (lv_sub hl [0, 1] rfl)

abbrev rX2_restoreLatest : Room := { frames := 5, cells := 0, slots := 0, locals := 144 }
theorem yd_X2_restoreLatest : ydV yX2_restoreLatest RX2 1 := ⟨rfl, by decide +kernel, by decide +kernel, by decide +kernel⟩
set_option maxHeartbeats 4000000 in
set_option maxRecDepth 100000 in
theorem c_X2_restoreLatest (l : Launch) (L : Lay) (σ : St) {X Y : SS} {hh : List SS} {t : List Int32} (hc : CR σ X (hh ++ [Y]) t) : Mg l L yX2_restoreLatest (Cond.code yX2_restoreLatest cX2_restoreLatest 3 none :: qA) rX2_restoreLatest [.ref (ad L 225), .ref (ad L 0)] σ (fun r u => r = none ∧ CR u Y hh t ∧ ∀ j, 227 ≤ j → u j = σ j) := by
  refine Mr_ofW (by decide) (Nat.le_of_ble_eq_true rfl) ?_
  intro p e s m args below meth c ls post hp hI S hr hlk hK h hl
  have hx := S.1
  have hb := S.2.1
  have hok := h.ok
  have hl : lv_has ls 3 [(0, .ref (ad L 225)), (1, .ref (ad L 0))] := hl
  obtain ⟨hX, ⟨O, hO, hs⟩, ht⟩ := hc
  obtain ⟨h4, hn, h226, hall⟩ := hs
  rw [List.length_append, List.length_singleton] at h4 hn
  have hoo := hO.1 hh.length (by omega)
  have hgo : (σ 226).getD hh.length 0 = nI (O hh.length) := by rw [h226]; exact Ol_get (by omega)
  have hY : SV σ (45 * O hh.length) Y := hall hh.length Y (by rw [List.getElem?_append_right (Nat.le_refl _), Nat.sub_self]; rfl)
  refine lv_aload_n hx hb dX2_restoreLatest_0 rfl (lv_at hl 0 rfl) ?_
  refine lv_aload_n hx hb dX2_restoreLatest_1 rfl (lv_at hl 0 rfl) ?_
  refine g_size S hK h (by decide) q_126 dX2_restoreLatest_2 ?_
  refine cv_i (show ((σ 225).getD 0 0 : Int32) = nI (hh.length + 1) from (by rw [hn]; rfl)) ?_
  refine lv_iconst (v := (nI 1)) hx hb dX2_restoreLatest_5 (by decide) ?_
  refine a_isub hx hb dX2_restoreLatest_6 (by omega) ?_
  refine cv_i (show (nI ((hh.length + 1) - 1) : Int32) = nI hh.length from (by rw [Nat.add_sub_cancel])) ?_
  refine q_V1 (ci := 2) S hI hK h [.int (nI hh.length)] (c_X2_stateAt l L σ (by omega) hgo (show O hh.length < 5 from by omega)) (by decide) rfl (by decide) q_240 q_242 qs_1 q_7 q_243 yd_X2_stateAt rfl ⟨⟨rfl, rfl⟩, ⟨(Nat.le_of_ble_eq_true rfl), (Nat.le_of_ble_eq_true rfl)⟩, Nat.le_refl _, Nat.le_refl _⟩ rfl (Nat.le_of_ble_eq_true rfl) hl.1 dX2_restoreLatest_7 (fun H locs h => ?_)
  refine lv_astore_n (lv' := [(2, .ref (ad L (45 * (O hh.length)))), (0, .ref (ad L 225)), (1, .ref (ad L 0))]) hx hb dX2_restoreLatest_10 rfl hl (by decide) rfl (fun ls hl => ?_)
  refine lv_aload_n hx hb dX2_restoreLatest_11 rfl (lv_at hl 0 rfl) ?_
  refine lv_ifnull hx hb dX2_restoreLatest_12 ?_
  refine lv_aload_n hx hb dX2_restoreLatest_15 rfl (lv_at hl 2 rfl) ?_
  refine lv_aload_n hx hb dX2_restoreLatest_16 rfl (lv_at hl 0 rfl) ?_
  refine q_V0 (ci := 5) S hI hK h [.ref (ad L (45 * (O hh.length)))] (c_X5_copyFrom l L σ (by decide) (kd45 (show O hh.length < 5 from by omega)) (by omega) hY) (by decide) rfl (by decide) q_244 q_245 q_246 q_2 q_247 yd_X5_copyFrom rfl ⟨⟨rfl, rfl⟩, ⟨(Nat.le_of_ble_eq_true rfl), (Nat.le_of_ble_eq_true rfl)⟩, Nat.le_refl _, Nat.le_refl _⟩ rfl (Nat.le_of_ble_eq_true rfl) hl.1 dX2_restoreLatest_17 (fun H locs h => ?_)
  refine lv_aload_n hx hb dX2_restoreLatest_20 rfl (lv_at hl 1 rfl) ?_
  refine lv_dup hx hb dX2_restoreLatest_21 rfl ?_
  refine g_size S hK h (by decide) q_126 dX2_restoreLatest_22 ?_
  refine cv_i (show (((sset σ 0 Y) 225).getD 0 0 : Int32) = nI (hh.length + 1) from (by rw [sset_n (by omega), hn]; rfl)) ?_
  refine lv_iconst (v := (nI 1)) hx hb dX2_restoreLatest_25 (by decide) ?_
  refine a_isub hx hb dX2_restoreLatest_26 (by omega) ?_
  refine cv_i (show (nI ((hh.length + 1) - 1) : Int32) = nI hh.length from (by rw [Nat.add_sub_cancel])) ?_
  refine p_size S hI hK h (by decide) q_126 dX2_restoreLatest_27 (fun H locs h => ?_)
  exact e_v S hK h hr hlk dX2_restoreLatest_30 (hp _ _ ⟨rfl, ⟨SV_sset.congr (fun j h1 h2 => up_n (by omega)), ⟨O, hO, by omega, up_s, by rw [up_n (by omega), sset_n (by omega)]; exact h226, fun j Z hj => by have hl := (List.getElem?_eq_some_iff.mp hj).1; have ho := hO.1 j (by omega); exact (hall j Z (by rw [List.getElem?_append_left hl]; exact hj)).congr (fun q h1 h2 => by rw [up_n (by omega), sset_n (by omega)])⟩, by rw [up_n (by omega), sset_n (by omega)]; exact ht⟩, fun j hj => by rw [up_n (by omega), sset_n (by omega)]⟩)
end
section
/-! the text's parts, as the class reads them -/
def dgAt (t : List Int32) (j : Nat) : Int32 := if nI 48 ≤ t.getD j 0 ∧ t.getD j 0 ≤ nI 57 then t.getD j 0 - nI 48 else (-1)
def rv (t : List Int32) : Nat → Int32 → Nat → Nat → Int32 × Nat × Nat
  | 0, v, g, e => (v, g, e)
  | n + 1, v, g, e => if 0 ≤ dgAt t e then rv t n (v * nI 10 + dgAt t e) (g + 1) (e + 1) else (v, g, e)
theorem rv_e {t : List Int32} : ∀ (n : Nat) (v : Int32) (g e : Nat), (rv t n v g e).2.2 ≤ e + n
  | 0, _, _, _ => Nat.le_refl _
  | n + 1, v, g, e => by
    unfold rv
    split
    · have := rv_e (t := t) n (v * nI 10 + dgAt t e) (g + 1) (e + 1)
      omega
    · exact Nat.le_add_right _ _
def rL (t : List Int32) : Nat → Bool → List Int32 → Nat → Bool × List Int32 × Nat
  | 0, _, vs, e => (true, vs, e)
  | n + 1, more, vs, e => if more = true then (if (rv t 4 (nI 0) 0 (e + 1)).2.1 = 0 then (false, vs, (rv t 4 (nI 0) 0 (e + 1)).2.2) else rL t n (decide (t.getD (rv t 4 (nI 0) 0 (e + 1)).2.2 0 = nI 44)) (vs ++ [(rv t 4 (nI 0) 0 (e + 1)).1]) (rv t 4 (nI 0) 0 (e + 1)).2.2) else (true, vs, e)
def rF2 (t : List Int32) (s : Nat) (q : Bool × List Int32 × Nat) : Bool × Int32 × List Int32 × Nat :=
  if q.1 = false then (false, dgAt t s, q.2.1, q.2.2) else if q.2.1.length = 0 ∨ t.getD q.2.2 0 ≠ nI 59 then (false, dgAt t s, q.2.1, q.2.2) else (true, dgAt t s, q.2.1, q.2.2 + 1)
def rF (t : List Int32) (s : Nat) : Bool × Int32 × List Int32 × Nat :=
  if dgAt t s < 0 then (false, dgAt t s, [], s) else rF2 t s (rL t 60 (decide (t.getD (s + 1) 0 = nI 58)) [] (s + 1))
theorem rL_e {t : List Int32} : ∀ (n : Nat) (m : Bool) (vs : List Int32) (e : Nat), (rL t n m vs e).2.2 ≤ e + 5 * n ∧ (rL t n m vs e).2.1.length ≤ vs.length + n
  | 0, _, _, _ => ⟨Nat.le_refl _, Nat.le_refl _⟩
  | n + 1, m, vs, e => by
    unfold rL
    have h := rv_e (t := t) 4 (nI 0) 0 (e + 1)
    split
    · split
      · exact ⟨by show (rv t 4 (nI 0) 0 (e + 1)).2.2 ≤ _; omega, Nat.le_add_right _ _⟩
      · have h2 := rL_e (t := t) n (decide (t.getD (rv t 4 (nI 0) 0 (e + 1)).2.2 0 = nI 44)) (vs ++ [(rv t 4 (nI 0) 0 (e + 1)).1]) (rv t 4 (nI 0) 0 (e + 1)).2.2
        rw [List.length_append, List.length_singleton] at h2
        omega
    · exact ⟨by show e ≤ _; omega, Nat.le_add_right _ _⟩
theorem rF_e {t : List Int32} {s : Nat} : (rF t s).2.2.2 ≤ s + 310 ∧ (rF t s).2.2.1.length ≤ 60 := by
  have h := rL_e (t := t) 60 (decide (t.getD (s + 1) 0 = nI 58)) [] (s + 1)
  unfold rF
  split
  · exact ⟨by show s ≤ _; omega, Nat.zero_le _⟩
  · unfold rF2
    split
    · exact ⟨by show (rL t 60 _ [] (s + 1)).2.2 ≤ _; omega, by show (rL t 60 _ [] (s + 1)).2.1.length ≤ _; have := h.2; rw [List.length_nil] at this; omega⟩
    · split
      · exact ⟨by show (rL t 60 _ [] (s + 1)).2.2 ≤ _; omega, by show (rL t 60 _ [] (s + 1)).2.1.length ≤ _; have := h.2; rw [List.length_nil] at this; omega⟩
      · exact ⟨by show (rL t 60 _ [] (s + 1)).2.2 + 1 ≤ _; omega, by show (rL t 60 _ [] (s + 1)).2.1.length ≤ _; have := h.2; rw [List.length_nil] at this; omega⟩
theorem dgAt_n {t : List Int32} {j : Nat} (h : ¬ dgAt t j < 0) : ∃ n, n < 10 ∧ dgAt t j = nI n := by
  unfold dgAt at h ⊢
  by_cases q : nI 48 ≤ t.getD j 0 ∧ t.getD j 0 ≤ nI 57
  · rw [if_pos q]
    obtain ⟨h1, h2⟩ := q
    obtain ⟨m, hm, e⟩ := nI_of2 (x := t.getD j 0) (M := nI 57) (n := 57) (by decide) (fun z => by
      have a := Int32.le_iff_toInt_le.mp h1
      have b := Int32.lt_iff_toInt_lt.mp z
      rw [nI_toInt (by omega)] at a
      rw [show (0 : Int32).toInt = 0 from by decide] at b
      omega) h2
    rw [e] at h1
    have h3 := (nI_leI (by omega) (by omega)).mp h1
    exact ⟨m - 48, by omega, by rw [e, pk_sub h3]⟩
  · rw [if_neg q] at h
    exact absurd (by decide) h
theorem rF_d {t : List Int32} {s : Nat} (h : (rF t s).1 = true) : ∃ n, n < 10 ∧ (rF t s).2.1 = nI n := by
  unfold rF at h ⊢
  split at h
  · cases h
  · rename_i q
    rw [if_neg q]
    obtain ⟨n, hn, e⟩ := dgAt_n q
    refine ⟨n, hn, ?_⟩
    unfold rF2
    split
    · exact e
    · split <;> exact e
/-- the reason of a part, 0 for none, and the digests' weights behind it -/
def rO (W : List Int32) (R : Bool × Int32 × List Int32 × Nat) : Nat :=
  if R.1 = false then 1 else if nI 3 ≤ R.2.1 then 2 else if nI 200 < W.getD R.2.1.toNatClampNeg 0 + nI R.2.2.1.length then 3 else 0
def rW (W : List Int32) (R : Bool × Int32 × List Int32 × Nat) : List Int32 :=
  if rO W R = 0 then W.set R.2.1.toNatClampNeg (W.getD R.2.1.toNatClampNeg 0 + nI R.2.2.1.length) else W
/-- the first fault: where, why, the length of the broken part -/
def ff (t : List Int32) : Nat → Nat → List Int32 → Option (Nat × Nat × Int32)
  | 0, _, _ => none
  | n + 1, s, W => if s < t.length then (if rO W (rF t s) = 0 then ff t n (rF t s).2.2.2 (rW W (rF t s)) else some (s, rO W (rF t s), nI (rF t s).2.2.2 - nI s)) else none
def Wof (X : SS) : List Int32 := [dW (X.2.2 0).1 (X.2.2 0).2.1, dW (X.2.2 1).1 (X.2.2 1).2.1, dW (X.2.2 2).1 (X.2.2 2).2.1]
def faultOf (t : List Int32) (X : SS) : Option (Nat × Nat × Int32) := ff t 60 0 (Wof X)
/-- the part that was read: its digest and end, its values -/
def tx (σ : St) (y vs : List Int32) : St := up (up σ 229 y) 230 vs
theorem tx_229 {σ : St} {y vs : List Int32} : tx σ y vs 229 = y := by rw [tx, up_n (by omega), up_s]
theorem tx_230 {σ : St} {y vs : List Int32} : tx σ y vs 230 = vs := by rw [tx, up_s]
theorem tx_n {σ : St} {k : Nat} {y vs : List Int32} (h1 : k ≠ 229) (h2 : k ≠ 230) : tx σ y vs k = σ k := by rw [tx, up_n h2, up_n h1]
theorem tx_of {σ σ' : St} {y vs : List Int32} (h1 : σ' 229 = y) (h2 : σ' 230 = vs) (h3 : ∀ k, k ≠ 229 → k ≠ 230 → σ' k = σ k) : σ' = tx σ y vs := by
  funext k
  by_cases a : k = 229
  · rw [a, h1, tx_229]
  · by_cases b : k = 230
    · rw [b, h2, tx_230]
    · rw [h3 k a b, tx_n a b]
theorem tx_u9 {σ : St} {y y' vs : List Int32} : up (tx σ y vs) 229 y' = tx σ y' vs := tx_of up_s (by rw [up_n (by omega), tx_230]) (fun k a b => by rw [up_n a, tx_n a b])
theorem tx_u0 {σ : St} {y vs vs' : List Int32} : up (tx σ y vs) 230 vs' = tx σ y vs' := tx_of (by rw [up_n (by omega), tx_229]) up_s (fun k a b => by rw [up_n b, tx_n a b])
theorem tx_tx {σ : St} {y vs y' vs' : List Int32} : tx (tx σ y vs) y' vs' = tx σ y' vs' := tx_of tx_229 tx_230 (fun k a b => by rw [tx_n a b, tx_n a b])
theorem rF2_f {t vs : List Int32} {s e : Nat} : rF2 t s (false, vs, e) = (false, dgAt t s, vs, e) := by rw [rF2, if_pos rfl]
theorem rF2_no {t vs : List Int32} {s e : Nat} (h : vs.length = 0 ∨ t.getD e 0 ≠ nI 59) : rF2 t s (true, vs, e) = (false, dgAt t s, vs, e) := by
  rw [rF2, if_neg (by simp), if_pos h]
theorem rF2_yes {t vs : List Int32} {s e : Nat} (h : 0 < vs.length) (h2 : t.getD e 0 = nI 59) : rF2 t s (true, vs, e) = (true, dgAt t s, vs, e + 1) := by
  rw [rF2, if_neg (by simp), if_neg]
  rintro (z | z)
  · exact Nat.ne_of_gt h z
  · exact z h2
end
section
abbrev rX3_digitAt : Room := { frames := 1, cells := 0, slots := 0, locals := 21 }
theorem yd_X3_digitAt : ydV yX3_digitAt RX3 2 := ⟨rfl, by decide +kernel, by decide +kernel, by decide +kernel⟩
set_option maxHeartbeats 4000000 in
set_option maxRecDepth 100000 in
theorem c_X3_digitAt (l : Launch) (L : Lay) (σ : St) {kt j : Nat} (hkt : kd kt = 4) (hj : j < 2 ^ 31) : Mf l L yX3_digitAt (Cond.code yX3_digitAt cX3_digitAt 3 (some FieldType.int) :: qA) rX3_digitAt [.ref (ad L kt), .int (nI j)] σ (some (.int (dgAt (σ kt) j))) σ := by
  refine Mf.ofW (by decide) (Nat.le_of_ble_eq_true rfl) ?_
  intro p e s m args below meth c ls post hp hI S hr hlk hK h hl
  have hx := S.1
  have hb := S.2.1
  have hok := h.ok
  have hl : lv_has ls 3 [(0, .ref (ad L kt)), (1, .int (nI j))] := hl
  refine lv_aload_n hx hb dX3_digitAt_0 rfl (lv_at hl 0 rfl) ?_
  refine lv_iload_n hx hb dX3_digitAt_1 rfl (lv_at hl 1 rfl) ?_
  refine q_V1 (ci := 4) S hI hK h [.int (nI j)] (c_X4_at l L σ hkt (by omega)) hkt rfl (by decide) q_576 q_224 q_225 q_3 q_226 yd_X4_at rfl ⟨⟨rfl, rfl⟩, ⟨(Nat.le_of_ble_eq_true rfl), (Nat.le_of_ble_eq_true rfl)⟩, Nat.le_refl _, Nat.le_refl _⟩ rfl (Nat.le_of_ble_eq_true rfl) hl.1 dX3_digitAt_2 (fun H locs h => ?_)
  refine lv_istore_n (lv' := [(2, .int ((σ kt).getD j 0)), (0, .ref (ad L kt)), (1, .int (nI j))]) hx hb dX3_digitAt_5 rfl hl (by decide) rfl (fun ls hl => ?_)
  refine lv_iload_n hx hb dX3_digitAt_6 rfl (lv_at hl 0 rfl) ?_
  refine lv_bipush (v := (nI 48)) hx hb dX3_digitAt_7 (by decide) ?_
  refine lv_icmp_lt (tgt := 25) hx hb dX3_digitAt_9 (by decide) (fun c_9 => ?_) (fun c_9 => ?_)
  · rw [dgAt, if_neg (fun q => Int32.not_le.mpr c_9 q.1)] at hp
    refine lv_iconst (v := (-1)) hx hb dX3_digitAt_25 (by decide) ?_
    exact e_i S hK h hr hlk dX3_digitAt_26 hp
  · refine lv_iload_n hx hb dX3_digitAt_12 rfl (lv_at hl 0 rfl) ?_
    refine lv_bipush (v := (nI 57)) hx hb dX3_digitAt_13 (by decide) ?_
    refine lv_icmp_gt (tgt := 25) hx hb dX3_digitAt_15 (by decide) (fun c_15 => ?_) (fun c_15 => ?_)
    · rw [dgAt, if_neg (fun q => Int32.not_le.mpr c_15 q.2)] at hp
      refine lv_iconst (v := (-1)) hx hb dX3_digitAt_25 (by decide) ?_
      exact e_i S hK h hr hlk dX3_digitAt_26 hp
    · rw [dgAt, if_pos ⟨Int32.not_lt.mp c_9, Int32.not_lt.mp c_15⟩] at hp
      refine lv_iload_n hx hb dX3_digitAt_18 rfl (lv_at hl 0 rfl) ?_
      refine lv_bipush (v := (nI 48)) hx hb dX3_digitAt_19 (by decide) ?_
      refine lv_isub hx hb dX3_digitAt_21 ?_
      refine lv_goto (tgt := 26) hx hb dX3_digitAt_22 (by decide) ?_
      exact e_i S hK h hr hlk dX3_digitAt_26 hp

abbrev rX3_readValue : Room := { frames := 2, cells := 0, slots := 0, locals := 43 }
theorem yd_X3_readValue : ydV yX3_readValue RX3 1 := ⟨rfl, by decide +kernel, by decide +kernel, by decide +kernel⟩
set_option maxHeartbeats 4000000 in
set_option maxRecDepth 100000 in
theorem c_X3_readValue (l : Launch) (L : Lay) (σ : St) {t vs : List Int32} {dg : Int32} {e0 : Nat} (ht : σ 227 = t) (hp3 : σ 229 = [dg, nI e0]) (he : e0 ≤ 1000) (hvs : σ 230 = vs) (hc : vs.length < 60) : Mf l L yX3_readValue (Cond.code yX3_readValue cX3_readValue 4 (some FieldType.boolean) :: qA) rX3_readValue [.ref (ad L 229), .ref (ad L 227)] σ (some (.int (if (rv t 4 (nI 0) 0 e0).2.1 ≠ 0 then 1 else 0))) (tx σ [dg, nI (rv t 4 (nI 0) 0 e0).2.2] (if (rv t 4 (nI 0) 0 e0).2.1 ≠ 0 then vs ++ [(rv t 4 (nI 0) 0 e0).1] else vs)) := by
  refine Mf.ofW (by decide) (Nat.le_of_ble_eq_true rfl) ?_
  intro p e s m args below meth c ls post hp hI S hr hlk hK h hl
  have hx := S.1
  have hb := S.2.1
  have hok := h.ok
  have hl : lv_has ls 4 [(0, .ref (ad L 229)), (1, .ref (ad L 227))] := hl
  refine lv_iconst (v := (nI 0)) hx hb dX3_readValue_0 (by decide) ?_
  refine lv_istore_n (lv' := [(2, .int (nI 0)), (0, .ref (ad L 229)), (1, .ref (ad L 227))]) hx hb dX3_readValue_1 rfl hl (by decide) rfl (fun ls hl => ?_)
  refine lv_iconst (v := (nI 0)) hx hb dX3_readValue_2 (by decide) ?_
  refine lv_istore_n (lv' := [(3, .int (nI 0)), (2, .int (nI 0)), (0, .ref (ad L 229)), (1, .ref (ad L 227))]) hx hb dX3_readValue_3 rfl hl (by decide) rfl (fun ls hl => ?_)
  have LP_4 : ∀ (n_4 : Nat) (g : Nat) (n : Nat) (v : Int32) (e1 : Nat) (σ1 : St), (g + n = 4) → (e1 ≤ e0 + g) → (σ1 = up σ 229 [dg, nI e1]) → (rv t 4 (nI 0) 0 e0 = rv t n v g e1) → n < n_4 → ∀ (H : Heap) (locs : List Loc) (ls : Array Slot), Hd L s.heap H σ1 locs → lv_has ls 4 [(3, .int (nI g)), (2, .int v), (0, .ref (ad L 229)), (1, .ref (ad L 227))] → W p l e rX3_readValue s m args below meth c H locs 0 0 (MQ below (Qg post (bs L) (Aw L)) args s 0 0 (Aw L)) (F0 m 4 ls []) := by
    intro n_4
    induction n_4 with
    | zero => intro g n v e1 σ1; intros; omega
    | succ n_4 ih_4 =>
      intro g n v e1 σ1 hg he1 hσ hr9 hm_4 H locs ls h hl
      have hok := h.ok
      have t1 : σ1 227 = t := by rw [hσ, up_n (by omega)]; exact ht
      have p1 : σ1 229 = [dg, nI e1] := by rw [hσ, up_s]
      have v1 : σ1 230 = vs := by rw [hσ, up_n (by omega)]; exact hvs
      refine lv_iload_n hx hb dX3_readValue_4 rfl (lv_at hl 0 rfl) ?_
      refine lv_iconst (v := (nI 4)) hx hb dX3_readValue_5 (by decide) ?_
      refine b_icmp_ge (tgt := 50) hx hb dX3_readValue_6 (by decide) (by omega) (by omega) (fun c_6 => ?_) (fun c_6 => ?_)
      · have hn0 : n = 0 := by omega
        have hf9 : rv t 4 (nI 0) 0 e0 = (v, g, e1) := by rw [hr9, hn0]; rfl
        refine lv_iload_n hx hb dX3_readValue_50 rfl (lv_at hl 0 rfl) ?_
        refine b_if_ne (tgt := 56) hx hb dX3_readValue_51 (by decide) (by omega) (fun c_51 => ?_) (fun c_51 => ?_)
        · rw [hf9, if_pos (show g ≠ 0 from by omega), if_pos (show g ≠ 0 from by omega)] at hp
          refine lv_aload_n hx hb dX3_readValue_56 rfl (lv_at hl 2 rfl) ?_
          refine g_pvals S hK h (by decide) q_142 dX3_readValue_57 ?_
          refine lv_iload_n hx hb dX3_readValue_60 rfl (lv_at hl 1 rfl) ?_
          refine q_V0 (ci := 4) S hI hK h [.int v] (c_X4_append l L σ1 (by decide) (by rw [v1]; exact hc) v) (by decide) rfl (by decide) q_581 q_99 q_100 q_3 q_101 yd_X4_append rfl ⟨⟨rfl, rfl⟩, ⟨(Nat.le_of_ble_eq_true rfl), (Nat.le_of_ble_eq_true rfl)⟩, Nat.le_refl _, Nat.le_refl _⟩ rfl (Nat.le_of_ble_eq_true rfl) hl.1 dX3_readValue_61 (fun H locs h => ?_)
          refine lv_iconst (v := (nI 1)) hx hb dX3_readValue_64 (by decide) ?_
          exact e_z S hK h hr hlk (Or.inr rfl) dX3_readValue_65 (fin_p hp rfl (tx_of (by rw [up_n (by omega)]; exact p1) (by rw [up_s, v1]) (fun k a b => by rw [up_n b, hσ, up_n a])))
        · rw [hf9, if_neg (show ¬ g ≠ 0 from by omega), if_neg (show ¬ g ≠ 0 from by omega)] at hp
          refine lv_iconst (v := (nI 0)) hx hb dX3_readValue_54 (by decide) ?_
          exact e_z S hK h hr hlk (Or.inl rfl) dX3_readValue_55 (fin_p hp rfl (tx_of p1 v1 (fun k a b => by rw [hσ, up_n a])))
      · obtain ⟨n1, rfl⟩ : ∃ n1, n = n1 + 1 := ⟨n - 1, by omega⟩
        refine lv_aload_n hx hb dX3_readValue_9 rfl (lv_at hl 3 rfl) ?_
        refine lv_aload_n hx hb dX3_readValue_10 rfl (lv_at hl 2 rfl) ?_
        refine g_end S hK h (by decide) q_148 dX3_readValue_11 ?_
        refine cv_i (show ((σ1 229).getD 1 0 : Int32) = nI e1 from (by rw [p1]; rfl)) ?_
        refine q_S1 S hI hK h [.ref (ad L 227), .int (nI e1)] (c_X3_digitAt l L σ1 (by decide) (by omega)) q_573 q_574 q_8 q_575 yd_X3_digitAt rfl ⟨⟨rfl, rfl⟩, ⟨(Nat.le_of_ble_eq_true rfl), (Nat.le_of_ble_eq_true rfl)⟩, Nat.le_refl _, Nat.le_refl _⟩ rfl (Nat.le_of_ble_eq_true rfl) hl.1 dX3_readValue_14 (fun H locs h => ?_)
        refine cv_i (show (dgAt (σ1 227) e1 : Int32) = dgAt t e1 from (by rw [t1])) ?_
        refine lv_if_lt (tgt := 50) hx hb dX3_readValue_17 (by decide) (fun c_17 => ?_) (fun c_17 => ?_)
        · have hf9 : rv t 4 (nI 0) 0 e0 = (v, g, e1) := by rw [hr9, rv, if_neg (Int32.not_le.mpr c_17)]
          refine lv_iload_n hx hb dX3_readValue_50 rfl (lv_at hl 0 rfl) ?_
          refine b_if_ne (tgt := 56) hx hb dX3_readValue_51 (by decide) (by omega) (fun c_51 => ?_) (fun c_51 => ?_)
          · rw [hf9, if_pos (show g ≠ 0 from by omega), if_pos (show g ≠ 0 from by omega)] at hp
            refine lv_aload_n hx hb dX3_readValue_56 rfl (lv_at hl 2 rfl) ?_
            refine g_pvals S hK h (by decide) q_142 dX3_readValue_57 ?_
            refine lv_iload_n hx hb dX3_readValue_60 rfl (lv_at hl 1 rfl) ?_
            refine q_V0 (ci := 4) S hI hK h [.int v] (c_X4_append l L σ1 (by decide) (by rw [v1]; exact hc) v) (by decide) rfl (by decide) q_581 q_99 q_100 q_3 q_101 yd_X4_append rfl ⟨⟨rfl, rfl⟩, ⟨(Nat.le_of_ble_eq_true rfl), (Nat.le_of_ble_eq_true rfl)⟩, Nat.le_refl _, Nat.le_refl _⟩ rfl (Nat.le_of_ble_eq_true rfl) hl.1 dX3_readValue_61 (fun H locs h => ?_)
            refine lv_iconst (v := (nI 1)) hx hb dX3_readValue_64 (by decide) ?_
            exact e_z S hK h hr hlk (Or.inr rfl) dX3_readValue_65 (fin_p hp rfl (tx_of (by rw [up_n (by omega)]; exact p1) (by rw [up_s, v1]) (fun k a b => by rw [up_n b, hσ, up_n a])))
          · rw [hf9, if_neg (show ¬ g ≠ 0 from by omega), if_neg (show ¬ g ≠ 0 from by omega)] at hp
            refine lv_iconst (v := (nI 0)) hx hb dX3_readValue_54 (by decide) ?_
            exact e_z S hK h hr hlk (Or.inl rfl) dX3_readValue_55 (fin_p hp rfl (tx_of p1 v1 (fun k a b => by rw [hσ, up_n a])))
        · have hd0 : 0 ≤ dgAt t e1 := Int32.not_lt.mp c_17
          refine lv_iload_n hx hb dX3_readValue_20 rfl (lv_at hl 1 rfl) ?_
          refine lv_bipush (v := (nI 10)) hx hb dX3_readValue_21 (by decide) ?_
          refine lv_imul hx hb dX3_readValue_23 ?_
          refine lv_aload_n hx hb dX3_readValue_24 rfl (lv_at hl 3 rfl) ?_
          refine lv_aload_n hx hb dX3_readValue_25 rfl (lv_at hl 2 rfl) ?_
          refine g_end S hK h (by decide) q_148 dX3_readValue_26 ?_
          refine cv_i (show ((σ1 229).getD 1 0 : Int32) = nI e1 from (by rw [p1]; rfl)) ?_
          refine q_S1 S hI hK h [.ref (ad L 227), .int (nI e1)] (c_X3_digitAt l L σ1 (by decide) (by omega)) q_573 q_574 q_8 q_575 yd_X3_digitAt rfl ⟨⟨rfl, rfl⟩, ⟨(Nat.le_of_ble_eq_true rfl), (Nat.le_of_ble_eq_true rfl)⟩, Nat.le_refl _, Nat.le_refl _⟩ rfl (Nat.le_of_ble_eq_true rfl) hl.1 dX3_readValue_29 (fun H locs h => ?_)
          refine cv_i (show (dgAt (σ1 227) e1 : Int32) = dgAt t e1 from (by rw [t1])) ?_
          refine lv_iadd hx hb dX3_readValue_32 ?_
          refine lv_istore_n (lv' := [(2, .int ((v * (nI 10)) + (dgAt t e1))), (3, .int (nI g)), (0, .ref (ad L 229)), (1, .ref (ad L 227))]) hx hb dX3_readValue_33 rfl hl (by decide) rfl (fun ls hl => ?_)
          refine lv_aload_n hx hb dX3_readValue_34 rfl (lv_at hl 2 rfl) ?_
          refine lv_dup hx hb dX3_readValue_35 rfl ?_
          refine g_end S hK h (by decide) q_148 dX3_readValue_36 ?_
          refine cv_i (show ((σ1 229).getD 1 0 : Int32) = nI e1 from (by rw [p1]; rfl)) ?_
          refine lv_iconst (v := (nI 1)) hx hb dX3_readValue_39 (by decide) ?_
          refine a_iadd hx hb dX3_readValue_40 ?_
          refine p_end S hI hK h (by decide) q_148 dX3_readValue_41 (fun H locs h => ?_)
          refine lv_iinc (v := (nI (g + 1))) (lv' := [(3, .int (nI (g + 1))), (2, .int ((v * (nI 10)) + (dgAt t e1))), (0, .ref (ad L 229)), (1, .ref (ad L 227))]) hx hb dX3_readValue_44 hl (k := 1) rfl (iinc_1 _) (by decide) rfl (fun ls hl => ?_)
          refine lv_goto (tgt := 4) hx hb dX3_readValue_47 (by decide) ?_
          exact ih_4 (g + 1) n1 ((v * (nI 10)) + (dgAt t e1)) (e1 + 1) (up σ1 229 [(σ1 229).getD 0 0, nI (e1 + 1)]) (by omega) (by omega) (by rw [hσ, up_up, up_s]; rfl) (by rw [hr9, rv, if_pos hd0]) (by omega) _ _ _ h (lv_sub hl [0, 1, 2, 3] rfl)
  exact LP_4 _ 0 4 (nI 0) e0 σ (by omega) (by omega) (up_id hp3).symm rfl (Nat.lt_succ_self _) _ _ _ h (lv_sub hl [0, 1, 2, 3] rfl)

abbrev rX3_readFrom : Room := { frames := 3, cells := 0, slots := 0, locals := 66 }
theorem yd_X3_readFrom : ydV yX3_readFrom RX3 2 := ⟨rfl, by decide +kernel, by decide +kernel, by decide +kernel⟩
set_option maxHeartbeats 4000000 in
set_option maxRecDepth 100000 in
theorem c_X3_readFrom (l : Launch) (L : Lay) (σ : St) {t : List Int32} {s0 : Nat} (ht : σ 227 = t) (hs0 : s0 ≤ 600) : Mf l L yX3_readFrom (Cond.code yX3_readFrom cX3_readFrom 5 (some FieldType.boolean) :: qA) rX3_readFrom [.ref (ad L 229), .ref (ad L 227), .int (nI s0)] σ (some (.int (if (rF t s0).1 = true then 1 else 0))) (tx σ [(rF t s0).2.1, nI (rF t s0).2.2.2] (rF t s0).2.2.1) := by
  refine Mf.ofW (by decide) (Nat.le_of_ble_eq_true rfl) ?_
  intro p e s m args below meth c ls post hp hI S hr hlk hK h hl
  have hx := S.1
  have hb := S.2.1
  have hok := h.ok
  have hl : lv_has ls 5 [(0, .ref (ad L 229)), (1, .ref (ad L 227)), (2, .int (nI s0))] := hl
  have hc60 : cp 230 = 60 := by decide
  refine lv_aload_n hx hb dX3_readFrom_0 rfl (lv_at hl 0 rfl) ?_
  refine g_pvals S hK h (by decide) q_142 dX3_readFrom_1 ?_
  refine q_V0 (ci := 4) S hI hK h [] (c_X4_empty l L σ (by decide)) (by decide) rfl (by decide) q_572 q_285 q_286 q_3 q_287 yd_X4_empty rfl ⟨⟨rfl, rfl⟩, ⟨(Nat.le_of_ble_eq_true rfl), (Nat.le_of_ble_eq_true rfl)⟩, Nat.le_refl _, Nat.le_refl _⟩ rfl (Nat.le_of_ble_eq_true rfl) hl.1 dX3_readFrom_4 (fun H locs h => ?_)
  refine lv_aload_n hx hb dX3_readFrom_7 rfl (lv_at hl 0 rfl) ?_
  refine lv_iload_n hx hb dX3_readFrom_8 rfl (lv_at hl 2 rfl) ?_
  refine p_end S hI hK h (by decide) q_148 dX3_readFrom_9 (fun H locs h => ?_)
  have h := h.to (show up (up σ 230 ([])) 229 [((up σ 230 ([])) 229).getD 0 0, nI s0] = tx σ [(σ 229).getD 0 0, nI s0] [] from (tx_of (by rw [up_s, up_n (by omega)]) (by rw [up_n (by omega), up_s]) (fun k a b => by rw [up_n a, up_n b])))
  refine lv_aload_n hx hb dX3_readFrom_12 rfl (lv_at hl 0 rfl) ?_
  refine lv_aload_n hx hb dX3_readFrom_13 rfl (lv_at hl 1 rfl) ?_
  refine lv_aload_n hx hb dX3_readFrom_14 rfl (lv_at hl 0 rfl) ?_
  refine g_end S hK h (by decide) q_148 dX3_readFrom_15 ?_
  refine cv_i (show (((tx σ [(σ 229).getD 0 0, nI s0] []) 229).getD 1 0 : Int32) = nI s0 from (by rw [tx_229]; rfl)) ?_
  refine q_S1 S hI hK h [.ref (ad L 227), .int (nI s0)] (c_X3_digitAt l L (tx σ [(σ 229).getD 0 0, nI s0] []) (by decide) (by omega)) q_573 q_574 q_8 q_575 yd_X3_digitAt rfl ⟨⟨rfl, rfl⟩, ⟨(Nat.le_of_ble_eq_true rfl), (Nat.le_of_ble_eq_true rfl)⟩, Nat.le_refl _, Nat.le_refl _⟩ rfl (Nat.le_of_ble_eq_true rfl) hl.1 dX3_readFrom_18 (fun H locs h => ?_)
  refine cv_i (show (dgAt ((tx σ [(σ 229).getD 0 0, nI s0] []) 227) s0 : Int32) = dgAt t s0 from (by rw [tx_n (by omega) (by omega), ht])) ?_
  refine p_digest S hI hK h (by decide) q_145 dX3_readFrom_21 (fun H locs h => ?_)
  have h := h.to (show up (tx σ [(σ 229).getD 0 0, nI s0] []) 229 [dgAt t s0, ((tx σ [(σ 229).getD 0 0, nI s0] []) 229).getD 1 0] = tx σ [dgAt t s0, nI s0] [] from (by rw [tx_229]; exact tx_u9))
  refine lv_aload_n hx hb dX3_readFrom_24 rfl (lv_at hl 0 rfl) ?_
  refine g_digest S hK h (by decide) q_145 dX3_readFrom_25 ?_
  refine cv_i (show (((tx σ [dgAt t s0, nI s0] []) 229).getD 0 0 : Int32) = dgAt t s0 from (by rw [tx_229]; rfl)) ?_
  refine lv_if_ge (tgt := 33) hx hb dX3_readFrom_28 (by decide) (fun c_28 => ?_) (fun c_28 => ?_)
  · rw [rF, if_neg (Int32.not_lt.mpr c_28)] at hp
    refine lv_aload_n hx hb dX3_readFrom_33 rfl (lv_at hl 0 rfl) ?_
    refine lv_dup hx hb dX3_readFrom_34 rfl ?_
    refine g_end S hK h (by decide) q_148 dX3_readFrom_35 ?_
    refine cv_i (show (((tx σ [dgAt t s0, nI s0] []) 229).getD 1 0 : Int32) = nI s0 from (by rw [tx_229]; rfl)) ?_
    refine lv_iconst (v := (nI 1)) hx hb dX3_readFrom_38 (by decide) ?_
    refine a_iadd hx hb dX3_readFrom_39 ?_
    refine p_end S hI hK h (by decide) q_148 dX3_readFrom_40 (fun H locs h => ?_)
    have h := h.to (show up (tx σ [dgAt t s0, nI s0] []) 229 [((tx σ [dgAt t s0, nI s0] []) 229).getD 0 0, nI (s0 + 1)] = tx σ [dgAt t s0, nI (s0 + 1)] [] from (by rw [tx_229]; exact tx_u9))
    refine lv_aload_n hx hb dX3_readFrom_43 rfl (lv_at hl 1 rfl) ?_
    refine lv_aload_n hx hb dX3_readFrom_44 rfl (lv_at hl 0 rfl) ?_
    refine g_end S hK h (by decide) q_148 dX3_readFrom_45 ?_
    refine cv_i (show (((tx σ [dgAt t s0, nI (s0 + 1)] []) 229).getD 1 0 : Int32) = nI (s0 + 1) from (by rw [tx_229]; rfl)) ?_
    refine q_V1 (ci := 4) S hI hK h [.int (nI (s0 + 1))] (c_X4_at l L (tx σ [dgAt t s0, nI (s0 + 1)] []) (by decide) (by omega)) (by decide) rfl (by decide) q_576 q_224 q_225 q_3 q_226 yd_X4_at rfl ⟨⟨rfl, rfl⟩, ⟨(Nat.le_of_ble_eq_true rfl), (Nat.le_of_ble_eq_true rfl)⟩, Nat.le_refl _, Nat.le_refl _⟩ rfl (Nat.le_of_ble_eq_true rfl) hl.1 dX3_readFrom_48 (fun H locs h => ?_)
    refine cv_i (show (((tx σ [dgAt t s0, nI (s0 + 1)] []) 227).getD (s0 + 1) 0 : Int32) = t.getD (s0 + 1) 0 from (by rw [tx_n (by omega) (by omega), ht])) ?_
    refine lv_bipush (v := (nI 58)) hx hb dX3_readFrom_51 (by decide) ?_
    have CT_61 : ∀ (mo : Bool) (H : Heap) (locs : List Loc) (ls : Array Slot), (decide (t.getD (s0 + 1) 0 = nI 58) = mo) → Hd L s.heap H (tx σ [dgAt t s0, nI (s0 + 1)] []) locs → lv_has ls 5 [(0, .ref (ad L 229)), (1, .ref (ad L 227)), (2, .int (nI s0))] → W p l e rX3_readFrom s m args below meth c H locs 0 0 (MQ below (Qg post (bs L) (Aw L)) args s 0 0 (Aw L)) (F0 m 61 ls [.int (if mo = true then 1 else 0)]) := by
      intro mo H locs ls hmo h hl
      have hok := h.ok
      rw [hmo] at hp
      refine lv_istore_n (lv' := [(3, .int (if mo = true then 1 else 0)), (0, .ref (ad L 229)), (1, .ref (ad L 227)), (2, .int (nI s0))]) hx hb dX3_readFrom_61 rfl hl (by decide) rfl (fun ls hl => ?_)
      refine lv_iconst (v := (nI 0)) hx hb dX3_readFrom_62 (by decide) ?_
      refine lv_istore (lv' := [(4, .int (nI 0)), (3, .int (if mo = true then 1 else 0)), (0, .ref (ad L 229)), (1, .ref (ad L 227)), (2, .int (nI s0))]) hx hb dX3_readFrom_63 hl (by decide) rfl (fun ls hl => ?_)
      have LP_65 : ∀ (n_65 : Nat) (r : Nat) (n : Nat) (more : Bool) (vs : List Int32) (e1 : Nat) (σ1 : St), (r + n = 60) → (vs.length = r) → (e1 ≤ s0 + 1 + 5 * r) → (σ1 = tx σ [dgAt t s0, nI e1] vs) → (rL t 60 mo [] (s0 + 1) = rL t n more vs e1) → n < n_65 → ∀ (H : Heap) (locs : List Loc) (ls : Array Slot), Hd L s.heap H σ1 locs → lv_has ls 5 [(4, .int (nI r)), (3, .int (if more = true then 1 else 0)), (0, .ref (ad L 229)), (1, .ref (ad L 227)), (2, .int (nI s0))] → W p l e rX3_readFrom s m args below meth c H locs 0 0 (MQ below (Qg post (bs L) (Aw L)) args s 0 0 (Aw L)) (F0 m 65 ls []) := by
        intro n_65
        induction n_65 with
        | zero => intro r n more vs e1 σ1; intros; omega
        | succ n_65 ih_65 =>
          intro r n more vs e1 σ1 hg hvl he1 hσ hr9 hm_65 H locs ls h hl
          have hok := h.ok
          have t1 : σ1 227 = t := by rw [hσ, tx_n (by omega) (by omega)]; exact ht
          have p1 : σ1 229 = [dgAt t s0, nI e1] := by rw [hσ, tx_229]
          have v1 : σ1 230 = vs := by rw [hσ, tx_230]
          refine lv_iload_n hx hb dX3_readFrom_65 rfl (lv_at hl 1 rfl) ?_
          refine z_eq (tgt := 121) hx hb dX3_readFrom_66 (by decide) (fun c_66 => ?_) (fun c_66 => ?_)
          · have hf9 : rL t 60 mo [] (s0 + 1) = (true, vs, e1) := by rw [hr9]; rcases n with _ | n; rfl; exact if_neg c_66
            refine lv_aload_n hx hb dX3_readFrom_121 rfl (lv_at hl 2 rfl) ?_
            refine g_pvals S hK h (by decide) q_142 dX3_readFrom_122 ?_
            refine q_V1 (ci := 4) S hI hK h [] (c_X4_length l L σ1 (by decide)) (by decide) rfl (by decide) q_582 q_228 q_229 q_3 q_230 yd_X4_length rfl ⟨⟨rfl, rfl⟩, ⟨(Nat.le_of_ble_eq_true rfl), (Nat.le_of_ble_eq_true rfl)⟩, Nat.le_refl _, Nat.le_refl _⟩ rfl (Nat.le_of_ble_eq_true rfl) hl.1 dX3_readFrom_125 (fun H locs h => ?_)
            refine cv_i (show (nI ((σ1 230).length) : Int32) = nI vs.length from (by rw [v1])) ?_
            refine b_if_eq (tgt := 144) hx hb dX3_readFrom_128 (by decide) (by omega) (fun c_128 => ?_) (fun c_128 => ?_)
            · rw [hf9, rF2_no (Or.inl c_128)] at hp
              refine lv_iconst (v := (nI 0)) hx hb dX3_readFrom_144 (by decide) ?_
              exact e_z S hK h hr hlk (Or.inl rfl) dX3_readFrom_145 (fin_p hp rfl hσ)
            · refine lv_aload_n hx hb dX3_readFrom_131 rfl (lv_at hl 3 rfl) ?_
              refine lv_aload_n hx hb dX3_readFrom_132 rfl (lv_at hl 2 rfl) ?_
              refine g_end S hK h (by decide) q_148 dX3_readFrom_133 ?_
              refine cv_i (show ((σ1 229).getD 1 0 : Int32) = nI e1 from (by rw [p1]; rfl)) ?_
              refine q_V1 (ci := 4) S hI hK h [.int (nI e1)] (c_X4_at l L σ1 (by decide) (by omega)) (by decide) rfl (by decide) q_576 q_224 q_225 q_3 q_226 yd_X4_at rfl ⟨⟨rfl, rfl⟩, ⟨(Nat.le_of_ble_eq_true rfl), (Nat.le_of_ble_eq_true rfl)⟩, Nat.le_refl _, Nat.le_refl _⟩ rfl (Nat.le_of_ble_eq_true rfl) hl.1 dX3_readFrom_136 (fun H locs h => ?_)
              refine cv_i (show ((σ1 227).getD e1 0 : Int32) = t.getD e1 0 from (by rw [t1])) ?_
              refine lv_bipush (v := (nI 59)) hx hb dX3_readFrom_139 (by decide) ?_
              refine lv_icmp_eq (tgt := 146) hx hb dX3_readFrom_141 (by decide) (fun c_141 => ?_) (fun c_141 => ?_)
              · rw [hf9, rF2_yes c_128 c_141] at hp
                refine lv_aload_n hx hb dX3_readFrom_146 rfl (lv_at hl 2 rfl) ?_
                refine lv_dup hx hb dX3_readFrom_147 rfl ?_
                refine g_end S hK h (by decide) q_148 dX3_readFrom_148 ?_
                refine cv_i (show ((σ1 229).getD 1 0 : Int32) = nI e1 from (by rw [p1]; rfl)) ?_
                refine lv_iconst (v := (nI 1)) hx hb dX3_readFrom_151 (by decide) ?_
                refine a_iadd hx hb dX3_readFrom_152 ?_
                refine p_end S hI hK h (by decide) q_148 dX3_readFrom_153 (fun H locs h => ?_)
                refine lv_iconst (v := (nI 1)) hx hb dX3_readFrom_156 (by decide) ?_
                exact e_z S hK h hr hlk (Or.inr rfl) dX3_readFrom_157 (fin_p hp rfl (by rw [p1, hσ]; exact tx_u9))
              · rw [hf9, rF2_no (Or.inr c_141)] at hp
                refine lv_iconst (v := (nI 0)) hx hb dX3_readFrom_144 (by decide) ?_
                exact e_z S hK h hr hlk (Or.inl rfl) dX3_readFrom_145 (fin_p hp rfl hσ)
          · refine lv_iload hx hb dX3_readFrom_69 (lv_at hl 0 rfl) ?_
            refine lv_bipush (v := (nI 60)) hx hb dX3_readFrom_71 (by decide) ?_
            refine b_icmp_ge (tgt := 121) hx hb dX3_readFrom_73 (by decide) (by omega) (by omega) (fun c_73 => ?_) (fun c_73 => ?_)
            · have hf9 : rL t 60 mo [] (s0 + 1) = (true, vs, e1) := by rw [hr9, show n = 0 by omega]; rfl
              refine lv_aload_n hx hb dX3_readFrom_121 rfl (lv_at hl 2 rfl) ?_
              refine g_pvals S hK h (by decide) q_142 dX3_readFrom_122 ?_
              refine q_V1 (ci := 4) S hI hK h [] (c_X4_length l L σ1 (by decide)) (by decide) rfl (by decide) q_582 q_228 q_229 q_3 q_230 yd_X4_length rfl ⟨⟨rfl, rfl⟩, ⟨(Nat.le_of_ble_eq_true rfl), (Nat.le_of_ble_eq_true rfl)⟩, Nat.le_refl _, Nat.le_refl _⟩ rfl (Nat.le_of_ble_eq_true rfl) hl.1 dX3_readFrom_125 (fun H locs h => ?_)
              refine cv_i (show (nI ((σ1 230).length) : Int32) = nI vs.length from (by rw [v1])) ?_
              refine b_if_eq (tgt := 144) hx hb dX3_readFrom_128 (by decide) (by omega) (fun c_128 => ?_) (fun c_128 => ?_)
              · rw [hf9, rF2_no (Or.inl c_128)] at hp
                refine lv_iconst (v := (nI 0)) hx hb dX3_readFrom_144 (by decide) ?_
                exact e_z S hK h hr hlk (Or.inl rfl) dX3_readFrom_145 (fin_p hp rfl hσ)
              · refine lv_aload_n hx hb dX3_readFrom_131 rfl (lv_at hl 3 rfl) ?_
                refine lv_aload_n hx hb dX3_readFrom_132 rfl (lv_at hl 2 rfl) ?_
                refine g_end S hK h (by decide) q_148 dX3_readFrom_133 ?_
                refine cv_i (show ((σ1 229).getD 1 0 : Int32) = nI e1 from (by rw [p1]; rfl)) ?_
                refine q_V1 (ci := 4) S hI hK h [.int (nI e1)] (c_X4_at l L σ1 (by decide) (by omega)) (by decide) rfl (by decide) q_576 q_224 q_225 q_3 q_226 yd_X4_at rfl ⟨⟨rfl, rfl⟩, ⟨(Nat.le_of_ble_eq_true rfl), (Nat.le_of_ble_eq_true rfl)⟩, Nat.le_refl _, Nat.le_refl _⟩ rfl (Nat.le_of_ble_eq_true rfl) hl.1 dX3_readFrom_136 (fun H locs h => ?_)
                refine cv_i (show ((σ1 227).getD e1 0 : Int32) = t.getD e1 0 from (by rw [t1])) ?_
                refine lv_bipush (v := (nI 59)) hx hb dX3_readFrom_139 (by decide) ?_
                refine lv_icmp_eq (tgt := 146) hx hb dX3_readFrom_141 (by decide) (fun c_141 => ?_) (fun c_141 => ?_)
                · rw [hf9, rF2_yes c_128 c_141] at hp
                  refine lv_aload_n hx hb dX3_readFrom_146 rfl (lv_at hl 2 rfl) ?_
                  refine lv_dup hx hb dX3_readFrom_147 rfl ?_
                  refine g_end S hK h (by decide) q_148 dX3_readFrom_148 ?_
                  refine cv_i (show ((σ1 229).getD 1 0 : Int32) = nI e1 from (by rw [p1]; rfl)) ?_
                  refine lv_iconst (v := (nI 1)) hx hb dX3_readFrom_151 (by decide) ?_
                  refine a_iadd hx hb dX3_readFrom_152 ?_
                  refine p_end S hI hK h (by decide) q_148 dX3_readFrom_153 (fun H locs h => ?_)
                  refine lv_iconst (v := (nI 1)) hx hb dX3_readFrom_156 (by decide) ?_
                  exact e_z S hK h hr hlk (Or.inr rfl) dX3_readFrom_157 (fin_p hp rfl (by rw [p1, hσ]; exact tx_u9))
                · rw [hf9, rF2_no (Or.inr c_141)] at hp
                  refine lv_iconst (v := (nI 0)) hx hb dX3_readFrom_144 (by decide) ?_
                  exact e_z S hK h hr hlk (Or.inl rfl) dX3_readFrom_145 (fin_p hp rfl hσ)
            · obtain ⟨n1, rfl⟩ : ∃ n1, n = n1 + 1 := ⟨n - 1, by omega⟩
              refine lv_aload_n hx hb dX3_readFrom_76 rfl (lv_at hl 2 rfl) ?_
              refine lv_dup hx hb dX3_readFrom_77 rfl ?_
              refine g_end S hK h (by decide) q_148 dX3_readFrom_78 ?_
              refine cv_i (show ((σ1 229).getD 1 0 : Int32) = nI e1 from (by rw [p1]; rfl)) ?_
              refine lv_iconst (v := (nI 1)) hx hb dX3_readFrom_81 (by decide) ?_
              refine a_iadd hx hb dX3_readFrom_82 ?_
              refine p_end S hI hK h (by decide) q_148 dX3_readFrom_83 (fun H locs h => ?_)
              have h := h.to (show up σ1 229 [(σ1 229).getD 0 0, nI (e1 + 1)] = tx σ [dgAt t s0, nI (e1 + 1)] vs from (by rw [p1, hσ]; exact tx_u9))
              have hre := rv_e (t := t) 4 (nI 0) 0 (e1 + 1)
              refine lv_aload_n hx hb dX3_readFrom_86 rfl (lv_at hl 2 rfl) ?_
              refine lv_aload_n hx hb dX3_readFrom_87 rfl (lv_at hl 3 rfl) ?_
              refine q_V1 (ci := 3) S hI hK h [.ref (ad L 227)] (c_X3_readValue l L (tx σ [dgAt t s0, nI (e1 + 1)] vs) ((tx_n (by omega) (by omega)).trans ht) tx_229 (by omega) tx_230 (by omega)) (by decide) rfl (by decide) q_577 q_579 qs_11 q_8 q_580 yd_X3_readValue rfl ⟨⟨rfl, rfl⟩, ⟨(Nat.le_of_ble_eq_true rfl), (Nat.le_of_ble_eq_true rfl)⟩, Nat.le_refl _, Nat.le_refl _⟩ rfl (Nat.le_of_ble_eq_true rfl) hl.1 dX3_readFrom_88 (fun H locs h => ?_)
              refine z_ne (tgt := 96) hx hb dX3_readFrom_91 (by decide) (fun c_91 => ?_) (fun c_91 => ?_)
              · have h := h.to (show tx (tx σ [dgAt t s0, nI (e1 + 1)] vs) [dgAt t s0, nI (rv t 4 (nI 0) 0 (e1 + 1)).2.2] (if (rv t 4 (nI 0) 0 (e1 + 1)).2.1 ≠ 0 then vs ++ [(rv t 4 (nI 0) 0 (e1 + 1)).1] else vs) = tx σ [dgAt t s0, nI (rv t 4 (nI 0) 0 (e1 + 1)).2.2] (vs ++ [(rv t 4 (nI 0) 0 (e1 + 1)).1]) from (by rw [if_pos c_91]; exact tx_tx))
                refine lv_aload_n hx hb dX3_readFrom_96 rfl (lv_at hl 3 rfl) ?_
                refine lv_aload_n hx hb dX3_readFrom_97 rfl (lv_at hl 2 rfl) ?_
                refine g_end S hK h (by decide) q_148 dX3_readFrom_98 ?_
                refine cv_i (show (((tx σ [dgAt t s0, nI (rv t 4 (nI 0) 0 (e1 + 1)).2.2] (vs ++ [(rv t 4 (nI 0) 0 (e1 + 1)).1])) 229).getD 1 0 : Int32) = nI ((rv t 4 (nI 0) 0 (e1 + 1)).2.2) from (by rw [tx_229]; rfl)) ?_
                refine q_V1 (ci := 4) S hI hK h [.int (nI ((rv t 4 (nI 0) 0 (e1 + 1)).2.2))] (c_X4_at l L (tx σ [dgAt t s0, nI (rv t 4 (nI 0) 0 (e1 + 1)).2.2] (vs ++ [(rv t 4 (nI 0) 0 (e1 + 1)).1])) (by decide) (by omega)) (by decide) rfl (by decide) q_576 q_224 q_225 q_3 q_226 yd_X4_at rfl ⟨⟨rfl, rfl⟩, ⟨(Nat.le_of_ble_eq_true rfl), (Nat.le_of_ble_eq_true rfl)⟩, Nat.le_refl _, Nat.le_refl _⟩ rfl (Nat.le_of_ble_eq_true rfl) hl.1 dX3_readFrom_101 (fun H locs h => ?_)
                refine cv_i (show (((tx σ [dgAt t s0, nI (rv t 4 (nI 0) 0 (e1 + 1)).2.2] (vs ++ [(rv t 4 (nI 0) 0 (e1 + 1)).1])) 227).getD ((rv t 4 (nI 0) 0 (e1 + 1)).2.2) 0 : Int32) = t.getD (rv t 4 (nI 0) 0 (e1 + 1)).2.2 0 from (by rw [tx_n (by omega) (by omega), ht])) ?_
                refine lv_bipush (v := (nI 44)) hx hb dX3_readFrom_104 (by decide) ?_
                refine lv_icmp_ne (tgt := 113) hx hb dX3_readFrom_106 (by decide) (fun c_106 => ?_) (fun c_106 => ?_)
                · refine lv_iconst (v := (nI 0)) hx hb dX3_readFrom_113 (by decide) ?_
                  refine lv_istore_n (lv' := [(3, .int (nI 0)), (4, .int (nI r)), (0, .ref (ad L 229)), (1, .ref (ad L 227)), (2, .int (nI s0))]) hx hb dX3_readFrom_114 rfl hl (by decide) rfl (fun ls hl => ?_)
                  refine lv_iinc (v := (nI (r + 1))) (lv' := [(4, .int (nI (r + 1))), (3, .int (nI 0)), (0, .ref (ad L 229)), (1, .ref (ad L 227)), (2, .int (nI s0))]) hx hb dX3_readFrom_115 hl (k := 1) rfl (iinc_1 _) (by decide) rfl (fun ls hl => ?_)
                  refine lv_goto (tgt := 65) hx hb dX3_readFrom_118 (by decide) ?_
                  exact ih_65 (r + 1) n1 false (vs ++ [(rv t 4 (nI 0) 0 (e1 + 1)).1]) ((rv t 4 (nI 0) 0 (e1 + 1)).2.2) (tx σ [dgAt t s0, nI (rv t 4 (nI 0) 0 (e1 + 1)).2.2] (vs ++ [(rv t 4 (nI 0) 0 (e1 + 1)).1])) (by omega) (by rw [List.length_append, List.length_singleton, hvl]) (by omega) rfl (by rw [hr9, rL, if_pos c_66, if_neg c_91, show decide (t.getD (rv t 4 (nI 0) 0 (e1 + 1)).2.2 0 = nI 44) = false from decide_eq_false c_106]) (by omega) _ _ _ h (lv_sub hl [0, 1, 2, 3, 4] rfl)
                · refine lv_iconst (v := (nI 1)) hx hb dX3_readFrom_109 (by decide) ?_
                  refine lv_goto (tgt := 114) hx hb dX3_readFrom_110 (by decide) ?_
                  refine lv_istore_n (lv' := [(3, .int (nI 1)), (4, .int (nI r)), (0, .ref (ad L 229)), (1, .ref (ad L 227)), (2, .int (nI s0))]) hx hb dX3_readFrom_114 rfl hl (by decide) rfl (fun ls hl => ?_)
                  refine lv_iinc (v := (nI (r + 1))) (lv' := [(4, .int (nI (r + 1))), (3, .int (nI 1)), (0, .ref (ad L 229)), (1, .ref (ad L 227)), (2, .int (nI s0))]) hx hb dX3_readFrom_115 hl (k := 1) rfl (iinc_1 _) (by decide) rfl (fun ls hl => ?_)
                  refine lv_goto (tgt := 65) hx hb dX3_readFrom_118 (by decide) ?_
                  exact ih_65 (r + 1) n1 true (vs ++ [(rv t 4 (nI 0) 0 (e1 + 1)).1]) ((rv t 4 (nI 0) 0 (e1 + 1)).2.2) (tx σ [dgAt t s0, nI (rv t 4 (nI 0) 0 (e1 + 1)).2.2] (vs ++ [(rv t 4 (nI 0) 0 (e1 + 1)).1])) (by omega) (by rw [List.length_append, List.length_singleton, hvl]) (by omega) rfl (by rw [hr9, rL, if_pos c_66, if_neg c_91, show decide (t.getD (rv t 4 (nI 0) 0 (e1 + 1)).2.2 0 = nI 44) = true from decide_eq_true c_106]) (by omega) _ _ _ h (lv_sub hl [0, 1, 2, 3, 4] rfl)
              · have hz9 : (rv t 4 (nI 0) 0 (e1 + 1)).2.1 = 0 := Classical.byContradiction fun q => c_91 q
                have hf9 : rL t 60 mo [] (s0 + 1) = (false, vs, (rv t 4 (nI 0) 0 (e1 + 1)).2.2) := by rw [hr9, rL, if_pos c_66, if_pos hz9]
                refine lv_iconst (v := (nI 0)) hx hb dX3_readFrom_94 (by decide) ?_
                exact e_z S hK h hr hlk (Or.inl rfl) dX3_readFrom_95 (fin_p (by rw [hf9, rF2_f] at hp; exact hp) rfl (by rw [if_neg c_91]; exact tx_tx))
      exact LP_65 _ 0 60 mo ([]) (s0 + 1) (tx σ [dgAt t s0, nI (s0 + 1)] []) (by omega) rfl (by omega) rfl rfl (Nat.lt_succ_self _) _ _ _ h (lv_sub hl [0, 1, 2, 3, 4] rfl)
    refine lv_icmp_ne (tgt := 60) hx hb dX3_readFrom_53 (by decide) (fun c_53 => ?_) (fun c_53 => ?_)
    · refine lv_iconst (v := (nI 0)) hx hb dX3_readFrom_60 (by decide) ?_
      exact CT_61 false _ _ _ (by first | exact decide_eq_true c_53 | exact decide_eq_false c_53) h (lv_sub hl [0, 1, 2] rfl)
    · refine lv_iconst (v := (nI 1)) hx hb dX3_readFrom_56 (by decide) ?_
      refine lv_goto (tgt := 61) hx hb dX3_readFrom_57 (by decide) ?_
      exact CT_61 true _ _ _ (by first | exact decide_eq_true c_53 | exact decide_eq_false c_53) h (lv_sub hl [0, 1, 2] rfl)
  · rw [rF, if_pos (Int32.not_le.mp c_28)] at hp
    refine lv_iconst (v := (nI 0)) hx hb dX3_readFrom_31 (by decide) ?_
    exact e_z S hK h hr hlk (Or.inl rfl) dX3_readFrom_32 hp

abbrev rX6_reasonOf : Room := { frames := 4, cells := 0, slots := 0, locals := 90 }
theorem yd_X6_reasonOf : ydV yX6_reasonOf RX6 3 := ⟨rfl, by decide +kernel, by decide +kernel, by decide +kernel⟩
set_option maxHeartbeats 4000000 in
set_option maxRecDepth 100000 in
theorem c_X6_reasonOf (l : Launch) (L : Lay) (σ : St) {t W : List Int32} {s0 : Nat} (ht : σ 227 = t) (hs0 : s0 ≤ 600) (hW : σ 233 = W) : Mf l L yX6_reasonOf (Cond.code yX6_reasonOf cX6_reasonOf 5 (some FieldType.int) :: qA) rX6_reasonOf [.ref (ad L 232), .ref (ad L 227), .int (nI s0), .ref (ad L 229)] σ (some (.int (nI (rO W (rF t s0))))) (up (tx σ [(rF t s0).2.1, nI (rF t s0).2.2.2] (rF t s0).2.2.1) 233 (rW W (rF t s0))) := by
  refine Mf.ofW (by decide) (Nat.le_of_ble_eq_true rfl) ?_
  intro p e s m args below meth c ls post hp hI S hr hlk hK h hl
  have hx := S.1
  have hb := S.2.1
  have hok := h.ok
  have hl : lv_has ls 5 [(0, .ref (ad L 232)), (1, .ref (ad L 227)), (2, .int (nI s0)), (3, .ref (ad L 229))] := hl
  have hW2 : (tx σ [(rF t s0).2.1, nI (rF t s0).2.2.2] (rF t s0).2.2.1) 233 = W := (tx_n (by omega) (by omega)).trans hW
  have hrl := (rF_e (t := t) (s := s0)).2
  refine lv_aload_n hx hb dX6_reasonOf_0 rfl (lv_at hl 3 rfl) ?_
  refine lv_aload_n hx hb dX6_reasonOf_1 rfl (lv_at hl 1 rfl) ?_
  refine lv_iload_n hx hb dX6_reasonOf_2 rfl (lv_at hl 2 rfl) ?_
  refine q_V1 (ci := 3) S hI hK h [.ref (ad L 227), .int (nI s0)] (c_X3_readFrom l L σ ht hs0) (by decide) rfl (by decide) q_568 q_569 q_570 q_8 q_571 yd_X3_readFrom rfl ⟨⟨rfl, rfl⟩, ⟨(Nat.le_of_ble_eq_true rfl), (Nat.le_of_ble_eq_true rfl)⟩, Nat.le_refl _, Nat.le_refl _⟩ rfl (Nat.le_of_ble_eq_true rfl) hl.1 dX6_reasonOf_3 (fun H locs h => ?_)
  refine z_ne (tgt := 11) hx hb dX6_reasonOf_6 (by decide) (fun c_6 => ?_) (fun c_6 => ?_)
  · obtain ⟨dn, hdn, hde⟩ := rF_d c_6
    refine lv_aload_n hx hb dX6_reasonOf_11 rfl (lv_at hl 3 rfl) ?_
    refine g_digest S hK h (by decide) q_146 dX6_reasonOf_12 ?_
    refine cv_i (show (((tx σ [(rF t s0).2.1, nI (rF t s0).2.2.2] (rF t s0).2.2.1) 229).getD 0 0 : Int32) = nI dn from (by rw [tx_229]; exact hde)) ?_
    refine lv_iconst (v := (nI 3)) hx hb dX6_reasonOf_15 (by decide) ?_
    refine b_icmp_lt (tgt := 21) hx hb dX6_reasonOf_16 (by decide) (by omega) (by omega) (fun c_16 => ?_) (fun c_16 => ?_)
    · refine lv_aload_n hx hb dX6_reasonOf_21 rfl (lv_at hl 0 rfl) ?_
      refine g_tweights S hK h (by decide) q_166 dX6_reasonOf_22 ?_
      refine lv_aload_n hx hb dX6_reasonOf_25 rfl (lv_at hl 3 rfl) ?_
      refine g_digest S hK h (by decide) q_146 dX6_reasonOf_26 ?_
      refine cv_i (show (((tx σ [(rF t s0).2.1, nI (rF t s0).2.2.2] (rF t s0).2.2.1) 229).getD 0 0 : Int32) = nI dn from (by rw [tx_229]; exact hde)) ?_
      refine q_V1 (ci := 4) S hI hK h [.int (nI dn)] (c_X4_at l L (tx σ [(rF t s0).2.1, nI (rF t s0).2.2.2] (rF t s0).2.2.1) (by decide) (by omega)) (by decide) rfl (by decide) q_583 q_224 q_225 q_3 q_226 yd_X4_at rfl ⟨⟨rfl, rfl⟩, ⟨(Nat.le_of_ble_eq_true rfl), (Nat.le_of_ble_eq_true rfl)⟩, Nat.le_refl _, Nat.le_refl _⟩ rfl (Nat.le_of_ble_eq_true rfl) hl.1 dX6_reasonOf_29 (fun H locs h => ?_)
      refine cv_i (show (((tx σ [(rF t s0).2.1, nI (rF t s0).2.2.2] (rF t s0).2.2.1) 233).getD dn 0 : Int32) = W.getD dn 0 from (by rw [hW2])) ?_
      refine lv_aload_n hx hb dX6_reasonOf_32 rfl (lv_at hl 3 rfl) ?_
      refine g_pvals S hK h (by decide) q_143 dX6_reasonOf_33 ?_
      refine q_V1 (ci := 4) S hI hK h [] (c_X4_length l L (tx σ [(rF t s0).2.1, nI (rF t s0).2.2.2] (rF t s0).2.2.1) (by decide)) (by decide) rfl (by decide) q_563 q_228 q_229 q_3 q_230 yd_X4_length rfl ⟨⟨rfl, rfl⟩, ⟨(Nat.le_of_ble_eq_true rfl), (Nat.le_of_ble_eq_true rfl)⟩, Nat.le_refl _, Nat.le_refl _⟩ rfl (Nat.le_of_ble_eq_true rfl) hl.1 dX6_reasonOf_36 (fun H locs h => ?_)
      refine cv_i (show (nI (((tx σ [(rF t s0).2.1, nI (rF t s0).2.2.2] (rF t s0).2.2.1) 230).length) : Int32) = nI ((rF t s0).2.2.1.length) from (by rw [tx_230])) ?_
      refine lv_iadd hx hb dX6_reasonOf_39 ?_
      refine lv_istore (lv' := [(4, .int ((W.getD dn 0) + (nI ((rF t s0).2.2.1.length)))), (0, .ref (ad L 232)), (1, .ref (ad L 227)), (2, .int (nI s0)), (3, .ref (ad L 229))]) hx hb dX6_reasonOf_40 hl (by decide) rfl (fun ls hl => ?_)
      refine lv_iload hx hb dX6_reasonOf_42 (lv_at hl 0 rfl) ?_
      refine lv_sipush (v := (nI 200)) hx hb dX6_reasonOf_44 (by decide) ?_
      refine lv_icmp_le (tgt := 52) hx hb dX6_reasonOf_47 (by decide) (fun c_47 => ?_) (fun c_47 => ?_)
      · have hro : rO W (rF t s0) = 0 := by rw [rO, if_neg (by rw [c_6]; decide), hde, if_neg (fun q => absurd ((nI_leI (by omega) (by omega)).mp q) (by omega)), nI_clamp (by omega), if_neg (Int32.not_lt.mpr c_47)]
        rw [rW, if_pos hro, hro] at hp
        refine lv_aload_n hx hb dX6_reasonOf_52 rfl (lv_at hl 1 rfl) ?_
        refine g_tweights S hK h (by decide) q_166 dX6_reasonOf_53 ?_
        refine lv_aload_n hx hb dX6_reasonOf_56 rfl (lv_at hl 4 rfl) ?_
        refine g_digest S hK h (by decide) q_146 dX6_reasonOf_57 ?_
        refine cv_i (show (((tx σ [(rF t s0).2.1, nI (rF t s0).2.2.2] (rF t s0).2.2.1) 229).getD 0 0 : Int32) = nI dn from (by rw [tx_229]; exact hde)) ?_
        refine lv_iload hx hb dX6_reasonOf_60 (lv_at hl 0 rfl) ?_
        refine q_V0 (ci := 4) S hI hK h [.int (nI dn), .int ((W.getD dn 0) + (nI ((rF t s0).2.2.1.length)))] (c_X4_put l L (tx σ [(rF t s0).2.1, nI (rF t s0).2.2.2] (rF t s0).2.2.1) (by decide) (by omega) ((W.getD dn 0) + (nI ((rF t s0).2.2.1.length)))) (by decide) rfl (by decide) q_584 q_325 q_326 q_3 q_327 yd_X4_put rfl ⟨⟨rfl, rfl⟩, ⟨(Nat.le_of_ble_eq_true rfl), (Nat.le_of_ble_eq_true rfl)⟩, Nat.le_refl _, Nat.le_refl _⟩ rfl (Nat.le_of_ble_eq_true rfl) hl.1 dX6_reasonOf_62 (fun H locs h => ?_)
        refine lv_iconst (v := (nI 0)) hx hb dX6_reasonOf_65 (by decide) ?_
        exact e_i S hK h hr hlk dX6_reasonOf_66 (fin_p hp rfl (by rw [show (232 + 1 : Nat) = 233 from rfl, hW2, hde, nI_clamp (by omega)]))
      · have hro : rO W (rF t s0) = 3 := by rw [rO, if_neg (by rw [c_6]; decide), hde, if_neg (fun q => absurd ((nI_leI (by omega) (by omega)).mp q) (by omega)), nI_clamp (by omega), if_pos (Int32.not_le.mp c_47)]
        rw [rW, hro, if_neg (by omega)] at hp
        refine lv_iconst (v := (nI 3)) hx hb dX6_reasonOf_50 (by decide) ?_
        exact e_i S hK h hr hlk dX6_reasonOf_51 (fin_p hp rfl (up_id hW2).symm)
    · have hro : rO W (rF t s0) = 2 := by rw [rO, if_neg (by rw [c_6]; decide), hde, if_pos ((nI_leI (by omega) (by omega)).mpr c_16)]
      rw [rW, hro, if_neg (by omega)] at hp
      refine lv_iconst (v := (nI 2)) hx hb dX6_reasonOf_19 (by decide) ?_
      exact e_i S hK h hr hlk dX6_reasonOf_20 (fin_p hp rfl (up_id hW2).symm)
  · have hro : rO W (rF t s0) = 1 := by rw [rO, if_pos (Bool.eq_false_iff.mpr c_6)]
    rw [rW, hro, if_neg (by omega)] at hp
    refine lv_iconst (v := (nI 1)) hx hb dX6_reasonOf_9 (by decide) ?_
    exact e_i S hK h hr hlk dX6_reasonOf_10 (fin_p hp rfl (up_id hW2).symm)

abbrev rX6_startWeights : Room := { frames := 3, cells := 0, slots := 0, locals := 63 }
set_option maxHeartbeats 4000000 in
set_option maxRecDepth 100000 in
theorem c_X6_startWeights (l : Launch) (L : Lay) (σ : St) {X : SS} (hv : SV σ 0 X) : Mf l L yX6_startWeights (Cond.code yX6_startWeights cX6_startWeights 4 none :: qA) rX6_startWeights [.ref (ad L 232), .ref (ad L 0)] σ none (up σ 233 (Wof X)) := by
  refine Mf.ofW (by decide) (Nat.le_of_ble_eq_true rfl) ?_
  intro p e s m args below meth c ls post hp hI S hr hlk hK h hl
  have hx := S.1
  have hb := S.2.1
  have hok := h.ok
  have hl : lv_has ls 4 [(0, .ref (ad L 232)), (1, .ref (ad L 0))] := hl
  have hc3 : cp 233 = 3 := by decide
  have hvu : ∀ l, SV (up σ 233 l) 0 X := fun l => hv.congr (fun j h1 h2 => up_n (by omega))
  refine lv_aload_n hx hb dX6_startWeights_0 rfl (lv_at hl 0 rfl) ?_
  refine g_tweights S hK h (by decide) q_166 dX6_startWeights_1 ?_
  refine q_V0 (ci := 4) S hI hK h [] (c_X4_empty l L σ (by decide)) (by decide) rfl (by decide) q_559 q_285 q_286 q_3 q_287 yd_X4_empty rfl ⟨⟨rfl, rfl⟩, ⟨(Nat.le_of_ble_eq_true rfl), (Nat.le_of_ble_eq_true rfl)⟩, Nat.le_refl _, Nat.le_refl _⟩ rfl (Nat.le_of_ble_eq_true rfl) hl.1 dX6_startWeights_4 (fun H locs h => ?_)
  refine lv_iconst (v := (nI 0)) hx hb dX6_startWeights_7 (by decide) ?_
  refine lv_istore_n (lv' := [(2, .int (nI 0)), (0, .ref (ad L 232)), (1, .ref (ad L 0))]) hx hb dX6_startWeights_8 rfl hl (by decide) rfl (fun ls hl => ?_)
  refine lv_iload_n hx hb dX6_startWeights_9 rfl (lv_at hl 0 rfl) ?_
  refine lv_iconst (v := (nI 3)) hx hb dX6_startWeights_10 (by decide) ?_
  refine b_icmp_ge (tgt := 45) hx hb dX6_startWeights_11 (by decide) (by decide) (by decide) (fun c9 => absurd c9 (by decide)) (fun _ => ?_)
  refine lv_aload_n hx hb dX6_startWeights_14 rfl (lv_at hl 2 rfl) ?_
  refine lv_iload_n hx hb dX6_startWeights_15 rfl (lv_at hl 0 rfl) ?_
  refine q_V1 (ci := 5) S hI hK h [.int (nI 0)] (c_X5_digestAt l L (up σ 233 ([])) (by decide) (by omega)) (by decide) rfl (by decide) q_560 q_208 q_209 q_2 q_210 yd_X5_digestAt rfl ⟨⟨rfl, rfl⟩, ⟨(Nat.le_of_ble_eq_true rfl), (Nat.le_of_ble_eq_true rfl)⟩, Nat.le_refl _, Nat.le_refl _⟩ rfl (Nat.le_of_ble_eq_true rfl) hl.1 dX6_startWeights_16 (fun H locs h => ?_)
  refine lv_astore_n (lv' := [(3, .ref (ad L (3 + 14 * 0))), (2, .int (nI 0)), (0, .ref (ad L 232)), (1, .ref (ad L 0))]) hx hb dX6_startWeights_19 rfl hl (by decide) rfl (fun ls hl => ?_)
  refine lv_aload_n hx hb dX6_startWeights_20 rfl (lv_at hl 2 rfl) ?_
  refine g_tweights S hK h (by decide) q_166 dX6_startWeights_21 ?_
  refine lv_aload_n hx hb dX6_startWeights_24 rfl (lv_at hl 0 rfl) ?_
  refine lv_ifnonnull (tgt := 32) hx hb dX6_startWeights_25 (by decide) ?_
  refine lv_aload_n hx hb dX6_startWeights_32 rfl (lv_at hl 0 rfl) ?_
  refine q_V1 (ci := 0) S hI hK h [] (c_X0_weight l L (up σ 233 ([])) (kd314 (by omega)) ((hvu _).2 0 (by omega))) (kd314 (by omega)) rfl (by decide) q_561 q_216 q_217 q_5 q_218 yd_X0_weight rfl ⟨⟨rfl, rfl⟩, ⟨(Nat.le_of_ble_eq_true rfl), (Nat.le_of_ble_eq_true rfl)⟩, Nat.le_refl _, Nat.le_refl _⟩ rfl (Nat.le_of_ble_eq_true rfl) hl.1 dX6_startWeights_33 (fun H locs h => ?_)
  refine q_V0 (ci := 4) S hI hK h [.int (dW ((X.2.2 0).1) ((X.2.2 0).2.1))] (c_X4_append l L (up σ 233 ([])) (by decide) (by rw [up_s]; exact (show 0 < 3 from by omega)) (dW ((X.2.2 0).1) ((X.2.2 0).2.1))) (by decide) rfl (by decide) q_562 q_99 q_100 q_3 q_101 yd_X4_append rfl ⟨⟨rfl, rfl⟩, ⟨(Nat.le_of_ble_eq_true rfl), (Nat.le_of_ble_eq_true rfl)⟩, Nat.le_refl _, Nat.le_refl _⟩ rfl (Nat.le_of_ble_eq_true rfl) hl.1 dX6_startWeights_36 (fun H locs h => ?_)
  have h := h.to (show up (up σ 233 ([])) 233 (((up σ 233 ([])) 233) ++ [dW ((X.2.2 0).1) ((X.2.2 0).2.1)]) = up σ 233 [dW (X.2.2 0).1 (X.2.2 0).2.1] from by rw [up_up, up_s]; rfl)
  refine lv_iinc (v := (nI 1)) (lv' := [(2, .int (nI 1)), (3, .ref (ad L (3 + 14 * 0))), (0, .ref (ad L 232)), (1, .ref (ad L 0))]) hx hb dX6_startWeights_39 hl (k := 1) rfl (iinc_k 0 1) (by decide) rfl (fun ls hl => ?_)
  refine lv_goto (tgt := 9) hx hb dX6_startWeights_42 (by decide) ?_
  refine lv_iload_n hx hb dX6_startWeights_9 rfl (lv_at hl 0 rfl) ?_
  refine lv_iconst (v := (nI 3)) hx hb dX6_startWeights_10 (by decide) ?_
  refine b_icmp_ge (tgt := 45) hx hb dX6_startWeights_11 (by decide) (by decide) (by decide) (fun c9 => absurd c9 (by decide)) (fun _ => ?_)
  refine lv_aload_n hx hb dX6_startWeights_14 rfl (lv_at hl 3 rfl) ?_
  refine lv_iload_n hx hb dX6_startWeights_15 rfl (lv_at hl 0 rfl) ?_
  refine q_V1 (ci := 5) S hI hK h [.int (nI 1)] (c_X5_digestAt l L (up σ 233 [dW (X.2.2 0).1 (X.2.2 0).2.1]) (by decide) (by omega)) (by decide) rfl (by decide) q_560 q_208 q_209 q_2 q_210 yd_X5_digestAt rfl ⟨⟨rfl, rfl⟩, ⟨(Nat.le_of_ble_eq_true rfl), (Nat.le_of_ble_eq_true rfl)⟩, Nat.le_refl _, Nat.le_refl _⟩ rfl (Nat.le_of_ble_eq_true rfl) hl.1 dX6_startWeights_16 (fun H locs h => ?_)
  refine lv_astore_n (lv' := [(3, .ref (ad L (3 + 14 * 1))), (2, .int (nI 1)), (0, .ref (ad L 232)), (1, .ref (ad L 0))]) hx hb dX6_startWeights_19 rfl hl (by decide) rfl (fun ls hl => ?_)
  refine lv_aload_n hx hb dX6_startWeights_20 rfl (lv_at hl 2 rfl) ?_
  refine g_tweights S hK h (by decide) q_166 dX6_startWeights_21 ?_
  refine lv_aload_n hx hb dX6_startWeights_24 rfl (lv_at hl 0 rfl) ?_
  refine lv_ifnonnull (tgt := 32) hx hb dX6_startWeights_25 (by decide) ?_
  refine lv_aload_n hx hb dX6_startWeights_32 rfl (lv_at hl 0 rfl) ?_
  refine q_V1 (ci := 0) S hI hK h [] (c_X0_weight l L (up σ 233 [dW (X.2.2 0).1 (X.2.2 0).2.1]) (kd314 (by omega)) ((hvu _).2 1 (by omega))) (kd314 (by omega)) rfl (by decide) q_561 q_216 q_217 q_5 q_218 yd_X0_weight rfl ⟨⟨rfl, rfl⟩, ⟨(Nat.le_of_ble_eq_true rfl), (Nat.le_of_ble_eq_true rfl)⟩, Nat.le_refl _, Nat.le_refl _⟩ rfl (Nat.le_of_ble_eq_true rfl) hl.1 dX6_startWeights_33 (fun H locs h => ?_)
  refine q_V0 (ci := 4) S hI hK h [.int (dW ((X.2.2 1).1) ((X.2.2 1).2.1))] (c_X4_append l L (up σ 233 [dW (X.2.2 0).1 (X.2.2 0).2.1]) (by decide) (by rw [up_s]; exact (show 1 < 3 from by omega)) (dW ((X.2.2 1).1) ((X.2.2 1).2.1))) (by decide) rfl (by decide) q_562 q_99 q_100 q_3 q_101 yd_X4_append rfl ⟨⟨rfl, rfl⟩, ⟨(Nat.le_of_ble_eq_true rfl), (Nat.le_of_ble_eq_true rfl)⟩, Nat.le_refl _, Nat.le_refl _⟩ rfl (Nat.le_of_ble_eq_true rfl) hl.1 dX6_startWeights_36 (fun H locs h => ?_)
  have h := h.to (show up (up σ 233 [dW (X.2.2 0).1 (X.2.2 0).2.1]) 233 (((up σ 233 [dW (X.2.2 0).1 (X.2.2 0).2.1]) 233) ++ [dW ((X.2.2 1).1) ((X.2.2 1).2.1)]) = up σ 233 [dW (X.2.2 0).1 (X.2.2 0).2.1, dW (X.2.2 1).1 (X.2.2 1).2.1] from by rw [up_up, up_s]; rfl)
  refine lv_iinc (v := (nI 2)) (lv' := [(2, .int (nI 2)), (3, .ref (ad L (3 + 14 * 1))), (0, .ref (ad L 232)), (1, .ref (ad L 0))]) hx hb dX6_startWeights_39 hl (k := 1) rfl (iinc_k 1 1) (by decide) rfl (fun ls hl => ?_)
  refine lv_goto (tgt := 9) hx hb dX6_startWeights_42 (by decide) ?_
  refine lv_iload_n hx hb dX6_startWeights_9 rfl (lv_at hl 0 rfl) ?_
  refine lv_iconst (v := (nI 3)) hx hb dX6_startWeights_10 (by decide) ?_
  refine b_icmp_ge (tgt := 45) hx hb dX6_startWeights_11 (by decide) (by decide) (by decide) (fun c9 => absurd c9 (by decide)) (fun _ => ?_)
  refine lv_aload_n hx hb dX6_startWeights_14 rfl (lv_at hl 3 rfl) ?_
  refine lv_iload_n hx hb dX6_startWeights_15 rfl (lv_at hl 0 rfl) ?_
  refine q_V1 (ci := 5) S hI hK h [.int (nI 2)] (c_X5_digestAt l L (up σ 233 [dW (X.2.2 0).1 (X.2.2 0).2.1, dW (X.2.2 1).1 (X.2.2 1).2.1]) (by decide) (by omega)) (by decide) rfl (by decide) q_560 q_208 q_209 q_2 q_210 yd_X5_digestAt rfl ⟨⟨rfl, rfl⟩, ⟨(Nat.le_of_ble_eq_true rfl), (Nat.le_of_ble_eq_true rfl)⟩, Nat.le_refl _, Nat.le_refl _⟩ rfl (Nat.le_of_ble_eq_true rfl) hl.1 dX6_startWeights_16 (fun H locs h => ?_)
  refine lv_astore_n (lv' := [(3, .ref (ad L (3 + 14 * 2))), (2, .int (nI 2)), (0, .ref (ad L 232)), (1, .ref (ad L 0))]) hx hb dX6_startWeights_19 rfl hl (by decide) rfl (fun ls hl => ?_)
  refine lv_aload_n hx hb dX6_startWeights_20 rfl (lv_at hl 2 rfl) ?_
  refine g_tweights S hK h (by decide) q_166 dX6_startWeights_21 ?_
  refine lv_aload_n hx hb dX6_startWeights_24 rfl (lv_at hl 0 rfl) ?_
  refine lv_ifnonnull (tgt := 32) hx hb dX6_startWeights_25 (by decide) ?_
  refine lv_aload_n hx hb dX6_startWeights_32 rfl (lv_at hl 0 rfl) ?_
  refine q_V1 (ci := 0) S hI hK h [] (c_X0_weight l L (up σ 233 [dW (X.2.2 0).1 (X.2.2 0).2.1, dW (X.2.2 1).1 (X.2.2 1).2.1]) (kd314 (by omega)) ((hvu _).2 2 (by omega))) (kd314 (by omega)) rfl (by decide) q_561 q_216 q_217 q_5 q_218 yd_X0_weight rfl ⟨⟨rfl, rfl⟩, ⟨(Nat.le_of_ble_eq_true rfl), (Nat.le_of_ble_eq_true rfl)⟩, Nat.le_refl _, Nat.le_refl _⟩ rfl (Nat.le_of_ble_eq_true rfl) hl.1 dX6_startWeights_33 (fun H locs h => ?_)
  refine q_V0 (ci := 4) S hI hK h [.int (dW ((X.2.2 2).1) ((X.2.2 2).2.1))] (c_X4_append l L (up σ 233 [dW (X.2.2 0).1 (X.2.2 0).2.1, dW (X.2.2 1).1 (X.2.2 1).2.1]) (by decide) (by rw [up_s]; exact (show 2 < 3 from by omega)) (dW ((X.2.2 2).1) ((X.2.2 2).2.1))) (by decide) rfl (by decide) q_562 q_99 q_100 q_3 q_101 yd_X4_append rfl ⟨⟨rfl, rfl⟩, ⟨(Nat.le_of_ble_eq_true rfl), (Nat.le_of_ble_eq_true rfl)⟩, Nat.le_refl _, Nat.le_refl _⟩ rfl (Nat.le_of_ble_eq_true rfl) hl.1 dX6_startWeights_36 (fun H locs h => ?_)
  have h := h.to (show up (up σ 233 [dW (X.2.2 0).1 (X.2.2 0).2.1, dW (X.2.2 1).1 (X.2.2 1).2.1]) 233 (((up σ 233 [dW (X.2.2 0).1 (X.2.2 0).2.1, dW (X.2.2 1).1 (X.2.2 1).2.1]) 233) ++ [dW ((X.2.2 2).1) ((X.2.2 2).2.1)]) = up σ 233 [dW (X.2.2 0).1 (X.2.2 0).2.1, dW (X.2.2 1).1 (X.2.2 1).2.1, dW (X.2.2 2).1 (X.2.2 2).2.1] from by rw [up_up, up_s]; rfl)
  refine lv_iinc (v := (nI 3)) (lv' := [(2, .int (nI 3)), (3, .ref (ad L (3 + 14 * 2))), (0, .ref (ad L 232)), (1, .ref (ad L 0))]) hx hb dX6_startWeights_39 hl (k := 1) rfl (iinc_k 2 1) (by decide) rfl (fun ls hl => ?_)
  refine lv_goto (tgt := 9) hx hb dX6_startWeights_42 (by decide) ?_
  refine lv_iload_n hx hb dX6_startWeights_9 rfl (lv_at hl 0 rfl) ?_
  refine lv_iconst (v := (nI 3)) hx hb dX6_startWeights_10 (by decide) ?_
  refine b_icmp_ge (tgt := 45) hx hb dX6_startWeights_11 (by decide) (by decide) (by decide) (fun _ => ?_) (fun c9 => absurd c9 (by decide))
  exact e_v S hK h hr hlk dX6_startWeights_45 hp
end
