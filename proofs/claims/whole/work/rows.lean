section
-- ===== PART A: goes FIRST, ahead of the names: the tables' words, and 'selects' of the private methods out of them =====
/-- a private method of a class that the tables say can be made, by its rows of tables_1 -/
def lw_okq (q : MethodName × Nat) : Prop := (q.1.cls ≠ "java/lang/invoke/MethodHandle" ∧ q.1.cls ≠ "java/lang/invoke/VarHandle") ∧ Cond.instantiable q.1.cls q.2 ∈ tables_1 ∧ Cond.privateMethod q.1 ∈ tables_1 ∧ Cond.instanceMethod q.1 ∈ tables_1
theorem lw_p0 : lw_okq (⟨"ProtoMachine", "unlink", "()V"⟩, 11) := ⟨⟨by decide +kernel, by decide +kernel⟩, List.mem_of_getElem? (i := 15) (by decide +kernel), List.mem_of_getElem? (i := 266) (by decide +kernel), List.mem_of_getElem? (i := 267) (by decide +kernel)⟩
theorem lw_p1 : lw_okq (⟨"ProtoMachine", "beginAnew", "()V"⟩, 11) := ⟨⟨by decide +kernel, by decide +kernel⟩, List.mem_of_getElem? (i := 15) (by decide +kernel), List.mem_of_getElem? (i := 270) (by decide +kernel), List.mem_of_getElem? (i := 271) (by decide +kernel)⟩
theorem lw_p2 : lw_okq (⟨"ProtoMachine$Code", "layLabels", "()V"⟩, 5) := ⟨⟨by decide +kernel, by decide +kernel⟩, List.mem_of_getElem? (i := 23) (by decide +kernel), List.mem_of_getElem? (i := 318) (by decide +kernel), List.mem_of_getElem? (i := 319) (by decide +kernel)⟩
theorem lw_p3 : lw_okq (⟨"ProtoMachine$Word", "mostOfA", "()I"⟩, 4) := ⟨⟨by decide +kernel, by decide +kernel⟩, List.mem_of_getElem? (i := 30) (by decide +kernel), List.mem_of_getElem? (i := 330) (by decide +kernel), List.mem_of_getElem? (i := 331) (by decide +kernel)⟩
theorem lw_p4 : lw_okq (⟨"ProtoMachine$Word", "mostOfB", "()I"⟩, 4) := ⟨⟨by decide +kernel, by decide +kernel⟩, List.mem_of_getElem? (i := 30) (by decide +kernel), List.mem_of_getElem? (i := 335) (by decide +kernel), List.mem_of_getElem? (i := 336) (by decide +kernel)⟩
theorem lw_p5 : lw_okq (⟨"ProtoMachine$Code", "faultOf", "(LProtoMachine$Word;I)I"⟩, 5) := ⟨⟨by decide +kernel, by decide +kernel⟩, List.mem_of_getElem? (i := 23) (by decide +kernel), List.mem_of_getElem? (i := 343) (by decide +kernel), List.mem_of_getElem? (i := 344) (by decide +kernel)⟩
theorem lw_p6 : lw_okq (⟨"ProtoMachine", "advance", "()V"⟩, 11) := ⟨⟨by decide +kernel, by decide +kernel⟩, List.mem_of_getElem? (i := 15) (by decide +kernel), List.mem_of_getElem? (i := 363) (by decide +kernel), List.mem_of_getElem? (i := 364) (by decide +kernel)⟩
theorem lw_p7 : lw_okq (⟨"ProtoMachine", "valuesEnd", "(LProtoMachine$Word;)I"⟩, 11) := ⟨⟨by decide +kernel, by decide +kernel⟩, List.mem_of_getElem? (i := 15) (by decide +kernel), List.mem_of_getElem? (i := 368) (by decide +kernel), List.mem_of_getElem? (i := 369) (by decide +kernel)⟩
theorem lw_p8 : lw_okq (⟨"ProtoMachine", "roomEnd", "(LProtoMachine$Word;)I"⟩, 11) := ⟨⟨by decide +kernel, by decide +kernel⟩, List.mem_of_getElem? (i := 15) (by decide +kernel), List.mem_of_getElem? (i := 398) (by decide +kernel), List.mem_of_getElem? (i := 399) (by decide +kernel)⟩
theorem lw_p9 : lw_okq (⟨"ProtoMachine$Heap", "youngLeft", "()I"⟩, 15) := ⟨⟨by decide +kernel, by decide +kernel⟩, List.mem_of_getElem? (i := 143) (by decide +kernel), List.mem_of_getElem? (i := 406) (by decide +kernel), List.mem_of_getElem? (i := 407) (by decide +kernel)⟩
theorem lw_p10 : lw_okq (⟨"ProtoMachine$Heap", "mark", "(Z)V"⟩, 15) := ⟨⟨by decide +kernel, by decide +kernel⟩, List.mem_of_getElem? (i := 143) (by decide +kernel), List.mem_of_getElem? (i := 414) (by decide +kernel), List.mem_of_getElem? (i := 415) (by decide +kernel)⟩
theorem lw_p11 : lw_okq (⟨"ProtoMachine$Heap", "reachRow", "([JI)V"⟩, 15) := ⟨⟨by decide +kernel, by decide +kernel⟩, List.mem_of_getElem? (i := 143) (by decide +kernel), List.mem_of_getElem? (i := 418) (by decide +kernel), List.mem_of_getElem? (i := 419) (by decide +kernel)⟩
theorem lw_p12 : lw_okq (⟨"ProtoMachine$Heap", "reach", "(LProtoMachine$Thing;)V"⟩, 15) := ⟨⟨by decide +kernel, by decide +kernel⟩, List.mem_of_getElem? (i := 143) (by decide +kernel), List.mem_of_getElem? (i := 427) (by decide +kernel), List.mem_of_getElem? (i := 428) (by decide +kernel)⟩
theorem lw_p13 : lw_okq (⟨"ProtoMachine$Heap", "youngMarked", "()I"⟩, 15) := ⟨⟨by decide +kernel, by decide +kernel⟩, List.mem_of_getElem? (i := 143) (by decide +kernel), List.mem_of_getElem? (i := 431) (by decide +kernel), List.mem_of_getElem? (i := 432) (by decide +kernel)⟩
theorem lw_p14 : lw_okq (⟨"ProtoMachine$Heap", "oldLeft", "()I"⟩, 15) := ⟨⟨by decide +kernel, by decide +kernel⟩, List.mem_of_getElem? (i := 143) (by decide +kernel), List.mem_of_getElem? (i := 439) (by decide +kernel), List.mem_of_getElem? (i := 440) (by decide +kernel)⟩
theorem lw_p15 : lw_okq (⟨"ProtoMachine$Heap", "freeUnmarked", "()I"⟩, 15) := ⟨⟨by decide +kernel, by decide +kernel⟩, List.mem_of_getElem? (i := 143) (by decide +kernel), List.mem_of_getElem? (i := 443) (by decide +kernel), List.mem_of_getElem? (i := 444) (by decide +kernel)⟩
def lw_privs_1 : List (MethodName × Nat) := [(⟨"ProtoMachine", "unlink", "()V"⟩, 11), (⟨"ProtoMachine", "beginAnew", "()V"⟩, 11), (⟨"ProtoMachine$Code", "layLabels", "()V"⟩, 5), (⟨"ProtoMachine$Word", "mostOfA", "()I"⟩, 4), (⟨"ProtoMachine$Word", "mostOfB", "()I"⟩, 4), (⟨"ProtoMachine$Code", "faultOf", "(LProtoMachine$Word;I)I"⟩, 5), (⟨"ProtoMachine", "advance", "()V"⟩, 11), (⟨"ProtoMachine", "valuesEnd", "(LProtoMachine$Word;)I"⟩, 11), (⟨"ProtoMachine", "roomEnd", "(LProtoMachine$Word;)I"⟩, 11), (⟨"ProtoMachine$Heap", "youngLeft", "()I"⟩, 15), (⟨"ProtoMachine$Heap", "mark", "(Z)V"⟩, 15), (⟨"ProtoMachine$Heap", "reachRow", "([JI)V"⟩, 15), (⟨"ProtoMachine$Heap", "reach", "(LProtoMachine$Thing;)V"⟩, 15), (⟨"ProtoMachine$Heap", "youngMarked", "()I"⟩, 15), (⟨"ProtoMachine$Heap", "oldLeft", "()I"⟩, 15), (⟨"ProtoMachine$Heap", "freeUnmarked", "()I"⟩, 15)]
theorem lw_r1 : ∀ q ∈ lw_privs_1, lw_okq q := List.forall_mem_cons.mpr ⟨lw_p0, List.forall_mem_cons.mpr ⟨lw_p1, List.forall_mem_cons.mpr ⟨lw_p2, List.forall_mem_cons.mpr ⟨lw_p3, List.forall_mem_cons.mpr ⟨lw_p4, List.forall_mem_cons.mpr ⟨lw_p5, List.forall_mem_cons.mpr ⟨lw_p6, List.forall_mem_cons.mpr ⟨lw_p7, List.forall_mem_cons.mpr ⟨lw_p8, List.forall_mem_cons.mpr ⟨lw_p9, List.forall_mem_cons.mpr ⟨lw_p10, List.forall_mem_cons.mpr ⟨lw_p11, List.forall_mem_cons.mpr ⟨lw_p12, List.forall_mem_cons.mpr ⟨lw_p13, List.forall_mem_cons.mpr ⟨lw_p14, List.forall_mem_cons.mpr ⟨lw_p15, fun _ h => absurd h List.not_mem_nil⟩⟩⟩⟩⟩⟩⟩⟩⟩⟩⟩⟩⟩⟩⟩⟩
theorem lw_p16 : lw_okq (⟨"ProtoMachine$Heap", "free", "(LProtoMachine$Thing;)V"⟩, 15) := ⟨⟨by decide +kernel, by decide +kernel⟩, List.mem_of_getElem? (i := 143) (by decide +kernel), List.mem_of_getElem? (i := 447) (by decide +kernel), List.mem_of_getElem? (i := 448) (by decide +kernel)⟩
theorem lw_p17 : lw_okq (⟨"ProtoMachine$Heap", "admit", "(ZII)V"⟩, 15) := ⟨⟨by decide +kernel, by decide +kernel⟩, List.mem_of_getElem? (i := 143) (by decide +kernel), List.mem_of_getElem? (i := 451) (by decide +kernel), List.mem_of_getElem? (i := 452) (by decide +kernel)⟩
theorem lw_p18 : lw_okq (⟨"ProtoMachine$Heap", "leaveNursery", "(LProtoMachine$Thing;)V"⟩, 15) := ⟨⟨by decide +kernel, by decide +kernel⟩, List.mem_of_getElem? (i := 143) (by decide +kernel), List.mem_of_getElem? (i := 455) (by decide +kernel), List.mem_of_getElem? (i := 456) (by decide +kernel)⟩
theorem lw_p19 : lw_okq (⟨"ProtoMachine", "perform", "(LProtoMachine$Word;)I"⟩, 11) := ⟨⟨by decide +kernel, by decide +kernel⟩, List.mem_of_getElem? (i := 15) (by decide +kernel), List.mem_of_getElem? (i := 473) (by decide +kernel), List.mem_of_getElem? (i := 474) (by decide +kernel)⟩
theorem lw_p20 : lw_okq (⟨"ProtoMachine", "bring", "(J)I"⟩, 11) := ⟨⟨by decide +kernel, by decide +kernel⟩, List.mem_of_getElem? (i := 15) (by decide +kernel), List.mem_of_getElem? (i := 481) (by decide +kernel), List.mem_of_getElem? (i := 482) (by decide +kernel)⟩
theorem lw_p21 : lw_okq (⟨"ProtoMachine", "letGo", "(I)I"⟩, 11) := ⟨⟨by decide +kernel, by decide +kernel⟩, List.mem_of_getElem? (i := 15) (by decide +kernel), List.mem_of_getElem? (i := 489) (by decide +kernel), List.mem_of_getElem? (i := 490) (by decide +kernel)⟩
theorem lw_p22 : lw_okq (⟨"ProtoMachine", "swap", "()I"⟩, 11) := ⟨⟨by decide +kernel, by decide +kernel⟩, List.mem_of_getElem? (i := 15) (by decide +kernel), List.mem_of_getElem? (i := 498) (by decide +kernel), List.mem_of_getElem? (i := 499) (by decide +kernel)⟩
theorem lw_p23 : lw_okq (⟨"ProtoMachine", "reckon", "(I)I"⟩, 11) := ⟨⟨by decide +kernel, by decide +kernel⟩, List.mem_of_getElem? (i := 15) (by decide +kernel), List.mem_of_getElem? (i := 508) (by decide +kernel), List.mem_of_getElem? (i := 509) (by decide +kernel)⟩
theorem lw_p24 : lw_okq (⟨"ProtoMachine", "exchange", "(IJ)I"⟩, 11) := ⟨⟨by decide +kernel, by decide +kernel⟩, List.mem_of_getElem? (i := 15) (by decide +kernel), List.mem_of_getElem? (i := 520) (by decide +kernel), List.mem_of_getElem? (i := 521) (by decide +kernel)⟩
theorem lw_p25 : lw_okq (⟨"ProtoMachine", "jump", "(I)I"⟩, 11) := ⟨⟨by decide +kernel, by decide +kernel⟩, List.mem_of_getElem? (i := 15) (by decide +kernel), List.mem_of_getElem? (i := 527) (by decide +kernel), List.mem_of_getElem? (i := 528) (by decide +kernel)⟩
theorem lw_p26 : lw_okq (⟨"ProtoMachine", "store", "(I)I"⟩, 11) := ⟨⟨by decide +kernel, by decide +kernel⟩, List.mem_of_getElem? (i := 15) (by decide +kernel), List.mem_of_getElem? (i := 543) (by decide +kernel), List.mem_of_getElem? (i := 544) (by decide +kernel)⟩
theorem lw_p27 : lw_okq (⟨"ProtoMachine", "keep", "(I)I"⟩, 11) := ⟨⟨by decide +kernel, by decide +kernel⟩, List.mem_of_getElem? (i := 15) (by decide +kernel), List.mem_of_getElem? (i := 556) (by decide +kernel), List.mem_of_getElem? (i := 557) (by decide +kernel)⟩
theorem lw_p28 : lw_okq (⟨"ProtoMachine", "giveBack", "()I"⟩, 11) := ⟨⟨by decide +kernel, by decide +kernel⟩, List.mem_of_getElem? (i := 15) (by decide +kernel), List.mem_of_getElem? (i := 564) (by decide +kernel), List.mem_of_getElem? (i := 565) (by decide +kernel)⟩
theorem lw_p29 : lw_okq (⟨"ProtoMachine", "print", "()I"⟩, 11) := ⟨⟨by decide +kernel, by decide +kernel⟩, List.mem_of_getElem? (i := 15) (by decide +kernel), List.mem_of_getElem? (i := 573) (by decide +kernel), List.mem_of_getElem? (i := 574) (by decide +kernel)⟩
theorem lw_p30 : lw_okq (⟨"ProtoMachine", "makeNew", "()I"⟩, 11) := ⟨⟨by decide +kernel, by decide +kernel⟩, List.mem_of_getElem? (i := 15) (by decide +kernel), List.mem_of_getElem? (i := 586) (by decide +kernel), List.mem_of_getElem? (i := 587) (by decide +kernel)⟩
theorem lw_p31 : lw_okq (⟨"ProtoMachine$Heap", "unused", "()LProtoMachine$Thing;"⟩, 15) := ⟨⟨by decide +kernel, by decide +kernel⟩, List.mem_of_getElem? (i := 143) (by decide +kernel), List.mem_of_getElem? (i := 594) (by decide +kernel), List.mem_of_getElem? (i := 595) (by decide +kernel)⟩
def lw_privs_2 : List (MethodName × Nat) := [(⟨"ProtoMachine$Heap", "free", "(LProtoMachine$Thing;)V"⟩, 15), (⟨"ProtoMachine$Heap", "admit", "(ZII)V"⟩, 15), (⟨"ProtoMachine$Heap", "leaveNursery", "(LProtoMachine$Thing;)V"⟩, 15), (⟨"ProtoMachine", "perform", "(LProtoMachine$Word;)I"⟩, 11), (⟨"ProtoMachine", "bring", "(J)I"⟩, 11), (⟨"ProtoMachine", "letGo", "(I)I"⟩, 11), (⟨"ProtoMachine", "swap", "()I"⟩, 11), (⟨"ProtoMachine", "reckon", "(I)I"⟩, 11), (⟨"ProtoMachine", "exchange", "(IJ)I"⟩, 11), (⟨"ProtoMachine", "jump", "(I)I"⟩, 11), (⟨"ProtoMachine", "store", "(I)I"⟩, 11), (⟨"ProtoMachine", "keep", "(I)I"⟩, 11), (⟨"ProtoMachine", "giveBack", "()I"⟩, 11), (⟨"ProtoMachine", "print", "()I"⟩, 11), (⟨"ProtoMachine", "makeNew", "()I"⟩, 11), (⟨"ProtoMachine$Heap", "unused", "()LProtoMachine$Thing;"⟩, 15)]
theorem lw_r2 : ∀ q ∈ lw_privs_2, lw_okq q := List.forall_mem_cons.mpr ⟨lw_p16, List.forall_mem_cons.mpr ⟨lw_p17, List.forall_mem_cons.mpr ⟨lw_p18, List.forall_mem_cons.mpr ⟨lw_p19, List.forall_mem_cons.mpr ⟨lw_p20, List.forall_mem_cons.mpr ⟨lw_p21, List.forall_mem_cons.mpr ⟨lw_p22, List.forall_mem_cons.mpr ⟨lw_p23, List.forall_mem_cons.mpr ⟨lw_p24, List.forall_mem_cons.mpr ⟨lw_p25, List.forall_mem_cons.mpr ⟨lw_p26, List.forall_mem_cons.mpr ⟨lw_p27, List.forall_mem_cons.mpr ⟨lw_p28, List.forall_mem_cons.mpr ⟨lw_p29, List.forall_mem_cons.mpr ⟨lw_p30, List.forall_mem_cons.mpr ⟨lw_p31, fun _ h => absurd h List.not_mem_nil⟩⟩⟩⟩⟩⟩⟩⟩⟩⟩⟩⟩⟩⟩⟩⟩
theorem lw_p32 : lw_okq (⟨"ProtoMachine", "makeCopy", "()I"⟩, 11) := ⟨⟨by decide +kernel, by decide +kernel⟩, List.mem_of_getElem? (i := 15) (by decide +kernel), List.mem_of_getElem? (i := 652) (by decide +kernel), List.mem_of_getElem? (i := 653) (by decide +kernel)⟩
theorem lw_p33 : lw_okq (⟨"ProtoMachine", "get", "(LProtoMachine$Word;)I"⟩, 11) := ⟨⟨by decide +kernel, by decide +kernel⟩, List.mem_of_getElem? (i := 15) (by decide +kernel), List.mem_of_getElem? (i := 663) (by decide +kernel), List.mem_of_getElem? (i := 664) (by decide +kernel)⟩
theorem lw_p34 : lw_okq (⟨"ProtoMachine", "chainOf", "(J)LProtoMachine$Thing;"⟩, 11) := ⟨⟨by decide +kernel, by decide +kernel⟩, List.mem_of_getElem? (i := 15) (by decide +kernel), List.mem_of_getElem? (i := 667) (by decide +kernel), List.mem_of_getElem? (i := 668) (by decide +kernel)⟩
theorem lw_p35 : lw_okq (⟨"ProtoMachine", "remember", "(LProtoMachine$Word;J)V"⟩, 11) := ⟨⟨by decide +kernel, by decide +kernel⟩, List.mem_of_getElem? (i := 15) (by decide +kernel), List.mem_of_getElem? (i := 678) (by decide +kernel), List.mem_of_getElem? (i := 679) (by decide +kernel)⟩
theorem lw_p36 : lw_okq (⟨"ProtoMachine$Memory", "hasNamesOf", "(LProtoMachine$Thing;)Z"⟩, 5) := ⟨⟨by decide +kernel, by decide +kernel⟩, List.mem_of_getElem? (i := 686) (by decide +kernel), List.mem_of_getElem? (i := 717) (by decide +kernel), List.mem_of_getElem? (i := 718) (by decide +kernel)⟩
theorem lw_p37 : lw_okq (⟨"ProtoMachine", "set", "(I)I"⟩, 11) := ⟨⟨by decide +kernel, by decide +kernel⟩, List.mem_of_getElem? (i := 15) (by decide +kernel), List.mem_of_getElem? (i := 734) (by decide +kernel), List.mem_of_getElem? (i := 735) (by decide +kernel)⟩
theorem lw_p38 : lw_okq (⟨"ProtoMachine", "drop", "(I)I"⟩, 11) := ⟨⟨by decide +kernel, by decide +kernel⟩, List.mem_of_getElem? (i := 15) (by decide +kernel), List.mem_of_getElem? (i := 742) (by decide +kernel), List.mem_of_getElem? (i := 743) (by decide +kernel)⟩
theorem lw_p39 : lw_okq (⟨"ProtoMachine", "parent", "()I"⟩, 11) := ⟨⟨by decide +kernel, by decide +kernel⟩, List.mem_of_getElem? (i := 15) (by decide +kernel), List.mem_of_getElem? (i := 751) (by decide +kernel), List.mem_of_getElem? (i := 752) (by decide +kernel)⟩
theorem lw_p40 : lw_okq (⟨"ProtoMachine", "adopt", "()I"⟩, 11) := ⟨⟨by decide +kernel, by decide +kernel⟩, List.mem_of_getElem? (i := 15) (by decide +kernel), List.mem_of_getElem? (i := 758) (by decide +kernel), List.mem_of_getElem? (i := 759) (by decide +kernel)⟩
theorem lw_p41 : lw_okq (⟨"ProtoMachine", "proto", "(I)I"⟩, 11) := ⟨⟨by decide +kernel, by decide +kernel⟩, List.mem_of_getElem? (i := 15) (by decide +kernel), List.mem_of_getElem? (i := 762) (by decide +kernel), List.mem_of_getElem? (i := 763) (by decide +kernel)⟩
theorem lw_p42 : lw_okq (⟨"ProtoMachine", "send", "(LProtoMachine$Word;)I"⟩, 11) := ⟨⟨by decide +kernel, by decide +kernel⟩, List.mem_of_getElem? (i := 15) (by decide +kernel), List.mem_of_getElem? (i := 770) (by decide +kernel), List.mem_of_getElem? (i := 771) (by decide +kernel)⟩
theorem lw_p43 : lw_okq (⟨"ProtoMachine", "call", "(JII)I"⟩, 11) := ⟨⟨by decide +kernel, by decide +kernel⟩, List.mem_of_getElem? (i := 15) (by decide +kernel), List.mem_of_getElem? (i := 774) (by decide +kernel), List.mem_of_getElem? (i := 775) (by decide +kernel)⟩
theorem lw_p44 : lw_okq (⟨"ProtoMachine", "answer", "(JI)I"⟩, 11) := ⟨⟨by decide +kernel, by decide +kernel⟩, List.mem_of_getElem? (i := 15) (by decide +kernel), List.mem_of_getElem? (i := 783) (by decide +kernel), List.mem_of_getElem? (i := 784) (by decide +kernel)⟩
theorem lw_p45 : lw_okq (⟨"ProtoMachine", "count", "(I)I"⟩, 11) := ⟨⟨by decide +kernel, by decide +kernel⟩, List.mem_of_getElem? (i := 15) (by decide +kernel), List.mem_of_getElem? (i := 809) (by decide +kernel), List.mem_of_getElem? (i := 810) (by decide +kernel)⟩
theorem lw_p46 : lw_okq (⟨"ProtoMachineModel", "clear", "()V"⟩, 54) := ⟨⟨by decide +kernel, by decide +kernel⟩, List.mem_of_getElem? (i := 853) (by decide +kernel), List.mem_of_getElem? (i := 861) (by decide +kernel), List.mem_of_getElem? (i := 862) (by decide +kernel)⟩
theorem lw_p47 : lw_okq (⟨"ProtoMachineModel", "faultOf", "(I)I"⟩, 54) := ⟨⟨by decide +kernel, by decide +kernel⟩, List.mem_of_getElem? (i := 853) (by decide +kernel), List.mem_of_getElem? (i := 1049) (by decide +kernel), List.mem_of_getElem? (i := 1050) (by decide +kernel)⟩
def lw_privs_3 : List (MethodName × Nat) := [(⟨"ProtoMachine", "makeCopy", "()I"⟩, 11), (⟨"ProtoMachine", "get", "(LProtoMachine$Word;)I"⟩, 11), (⟨"ProtoMachine", "chainOf", "(J)LProtoMachine$Thing;"⟩, 11), (⟨"ProtoMachine", "remember", "(LProtoMachine$Word;J)V"⟩, 11), (⟨"ProtoMachine$Memory", "hasNamesOf", "(LProtoMachine$Thing;)Z"⟩, 5), (⟨"ProtoMachine", "set", "(I)I"⟩, 11), (⟨"ProtoMachine", "drop", "(I)I"⟩, 11), (⟨"ProtoMachine", "parent", "()I"⟩, 11), (⟨"ProtoMachine", "adopt", "()I"⟩, 11), (⟨"ProtoMachine", "proto", "(I)I"⟩, 11), (⟨"ProtoMachine", "send", "(LProtoMachine$Word;)I"⟩, 11), (⟨"ProtoMachine", "call", "(JII)I"⟩, 11), (⟨"ProtoMachine", "answer", "(JI)I"⟩, 11), (⟨"ProtoMachine", "count", "(I)I"⟩, 11), (⟨"ProtoMachineModel", "clear", "()V"⟩, 54), (⟨"ProtoMachineModel", "faultOf", "(I)I"⟩, 54)]
theorem lw_r3 : ∀ q ∈ lw_privs_3, lw_okq q := List.forall_mem_cons.mpr ⟨lw_p32, List.forall_mem_cons.mpr ⟨lw_p33, List.forall_mem_cons.mpr ⟨lw_p34, List.forall_mem_cons.mpr ⟨lw_p35, List.forall_mem_cons.mpr ⟨lw_p36, List.forall_mem_cons.mpr ⟨lw_p37, List.forall_mem_cons.mpr ⟨lw_p38, List.forall_mem_cons.mpr ⟨lw_p39, List.forall_mem_cons.mpr ⟨lw_p40, List.forall_mem_cons.mpr ⟨lw_p41, List.forall_mem_cons.mpr ⟨lw_p42, List.forall_mem_cons.mpr ⟨lw_p43, List.forall_mem_cons.mpr ⟨lw_p44, List.forall_mem_cons.mpr ⟨lw_p45, List.forall_mem_cons.mpr ⟨lw_p46, List.forall_mem_cons.mpr ⟨lw_p47, fun _ h => absurd h List.not_mem_nil⟩⟩⟩⟩⟩⟩⟩⟩⟩⟩⟩⟩⟩⟩⟩⟩
theorem lw_p48 : lw_okq (⟨"ProtoMachineModel", "oneStep", "()I"⟩, 54) := ⟨⟨by decide +kernel, by decide +kernel⟩, List.mem_of_getElem? (i := 853) (by decide +kernel), List.mem_of_getElem? (i := 1067) (by decide +kernel), List.mem_of_getElem? (i := 1068) (by decide +kernel)⟩
theorem lw_p49 : lw_okq (⟨"ProtoMachineModel", "ends", "(I)I"⟩, 54) := ⟨⟨by decide +kernel, by decide +kernel⟩, List.mem_of_getElem? (i := 853) (by decide +kernel), List.mem_of_getElem? (i := 1071) (by decide +kernel), List.mem_of_getElem? (i := 1072) (by decide +kernel)⟩
theorem lw_p50 : lw_okq (⟨"ProtoMachineModel", "simple", "(II)I"⟩, 54) := ⟨⟨by decide +kernel, by decide +kernel⟩, List.mem_of_getElem? (i := 853) (by decide +kernel), List.mem_of_getElem? (i := 1078) (by decide +kernel), List.mem_of_getElem? (i := 1079) (by decide +kernel)⟩
theorem lw_p51 : lw_okq (⟨"ProtoMachineModel", "put", "(II)I"⟩, 54) := ⟨⟨by decide +kernel, by decide +kernel⟩, List.mem_of_getElem? (i := 853) (by decide +kernel), List.mem_of_getElem? (i := 1082) (by decide +kernel), List.mem_of_getElem? (i := 1083) (by decide +kernel)⟩
theorem lw_p52 : lw_okq (⟨"ProtoMachineModel", "push", "(II)V"⟩, 54) := ⟨⟨by decide +kernel, by decide +kernel⟩, List.mem_of_getElem? (i := 853) (by decide +kernel), List.mem_of_getElem? (i := 1086) (by decide +kernel), List.mem_of_getElem? (i := 1087) (by decide +kernel)⟩
theorem lw_p53 : lw_okq (⟨"ProtoMachineModel", "well", "(I)I"⟩, 54) := ⟨⟨by decide +kernel, by decide +kernel⟩, List.mem_of_getElem? (i := 853) (by decide +kernel), List.mem_of_getElem? (i := 1090) (by decide +kernel), List.mem_of_getElem? (i := 1091) (by decide +kernel)⟩
theorem lw_p54 : lw_okq (⟨"ProtoMachineModel", "topKind", "(I)I"⟩, 54) := ⟨⟨by decide +kernel, by decide +kernel⟩, List.mem_of_getElem? (i := 853) (by decide +kernel), List.mem_of_getElem? (i := 1094) (by decide +kernel), List.mem_of_getElem? (i := 1095) (by decide +kernel)⟩
theorem lw_p55 : lw_okq (⟨"ProtoMachineModel", "topNumber", "(I)I"⟩, 54) := ⟨⟨by decide +kernel, by decide +kernel⟩, List.mem_of_getElem? (i := 853) (by decide +kernel), List.mem_of_getElem? (i := 1098) (by decide +kernel), List.mem_of_getElem? (i := 1099) (by decide +kernel)⟩
theorem lw_p56 : lw_okq (⟨"ProtoMachineModel", "swap", "()I"⟩, 54) := ⟨⟨by decide +kernel, by decide +kernel⟩, List.mem_of_getElem? (i := 853) (by decide +kernel), List.mem_of_getElem? (i := 1102) (by decide +kernel), List.mem_of_getElem? (i := 1103) (by decide +kernel)⟩
theorem lw_p57 : lw_okq (⟨"ProtoMachineModel", "answer", "(ZI)I"⟩, 54) := ⟨⟨by decide +kernel, by decide +kernel⟩, List.mem_of_getElem? (i := 853) (by decide +kernel), List.mem_of_getElem? (i := 1106) (by decide +kernel), List.mem_of_getElem? (i := 1107) (by decide +kernel)⟩
theorem lw_p58 : lw_okq (⟨"ProtoMachineModel", "unless", "(I)I"⟩, 54) := ⟨⟨by decide +kernel, by decide +kernel⟩, List.mem_of_getElem? (i := 853) (by decide +kernel), List.mem_of_getElem? (i := 1110) (by decide +kernel), List.mem_of_getElem? (i := 1111) (by decide +kernel)⟩
theorem lw_p59 : lw_okq (⟨"ProtoMachineModel", "isFalse", "()Z"⟩, 54) := ⟨⟨by decide +kernel, by decide +kernel⟩, List.mem_of_getElem? (i := 853) (by decide +kernel), List.mem_of_getElem? (i := 1114) (by decide +kernel), List.mem_of_getElem? (i := 1115) (by decide +kernel)⟩
theorem lw_p60 : lw_okq (⟨"ProtoMachineModel", "local", "(I)I"⟩, 54) := ⟨⟨by decide +kernel, by decide +kernel⟩, List.mem_of_getElem? (i := 853) (by decide +kernel), List.mem_of_getElem? (i := 1118) (by decide +kernel), List.mem_of_getElem? (i := 1119) (by decide +kernel)⟩
theorem lw_p61 : lw_okq (⟨"ProtoMachineModel", "store", "(I)I"⟩, 54) := ⟨⟨by decide +kernel, by decide +kernel⟩, List.mem_of_getElem? (i := 853) (by decide +kernel), List.mem_of_getElem? (i := 1122) (by decide +kernel), List.mem_of_getElem? (i := 1123) (by decide +kernel)⟩
theorem lw_p62 : lw_okq (⟨"ProtoMachineModel", "keep", "(I)I"⟩, 54) := ⟨⟨by decide +kernel, by decide +kernel⟩, List.mem_of_getElem? (i := 853) (by decide +kernel), List.mem_of_getElem? (i := 1126) (by decide +kernel), List.mem_of_getElem? (i := 1127) (by decide +kernel)⟩
theorem lw_p63 : lw_okq (⟨"ProtoMachineModel", "reckon", "(I)I"⟩, 54) := ⟨⟨by decide +kernel, by decide +kernel⟩, List.mem_of_getElem? (i := 853) (by decide +kernel), List.mem_of_getElem? (i := 1130) (by decide +kernel), List.mem_of_getElem? (i := 1131) (by decide +kernel)⟩
def lw_privs_4 : List (MethodName × Nat) := [(⟨"ProtoMachineModel", "oneStep", "()I"⟩, 54), (⟨"ProtoMachineModel", "ends", "(I)I"⟩, 54), (⟨"ProtoMachineModel", "simple", "(II)I"⟩, 54), (⟨"ProtoMachineModel", "put", "(II)I"⟩, 54), (⟨"ProtoMachineModel", "push", "(II)V"⟩, 54), (⟨"ProtoMachineModel", "well", "(I)I"⟩, 54), (⟨"ProtoMachineModel", "topKind", "(I)I"⟩, 54), (⟨"ProtoMachineModel", "topNumber", "(I)I"⟩, 54), (⟨"ProtoMachineModel", "swap", "()I"⟩, 54), (⟨"ProtoMachineModel", "answer", "(ZI)I"⟩, 54), (⟨"ProtoMachineModel", "unless", "(I)I"⟩, 54), (⟨"ProtoMachineModel", "isFalse", "()Z"⟩, 54), (⟨"ProtoMachineModel", "local", "(I)I"⟩, 54), (⟨"ProtoMachineModel", "store", "(I)I"⟩, 54), (⟨"ProtoMachineModel", "keep", "(I)I"⟩, 54), (⟨"ProtoMachineModel", "reckon", "(I)I"⟩, 54)]
theorem lw_r4 : ∀ q ∈ lw_privs_4, lw_okq q := List.forall_mem_cons.mpr ⟨lw_p48, List.forall_mem_cons.mpr ⟨lw_p49, List.forall_mem_cons.mpr ⟨lw_p50, List.forall_mem_cons.mpr ⟨lw_p51, List.forall_mem_cons.mpr ⟨lw_p52, List.forall_mem_cons.mpr ⟨lw_p53, List.forall_mem_cons.mpr ⟨lw_p54, List.forall_mem_cons.mpr ⟨lw_p55, List.forall_mem_cons.mpr ⟨lw_p56, List.forall_mem_cons.mpr ⟨lw_p57, List.forall_mem_cons.mpr ⟨lw_p58, List.forall_mem_cons.mpr ⟨lw_p59, List.forall_mem_cons.mpr ⟨lw_p60, List.forall_mem_cons.mpr ⟨lw_p61, List.forall_mem_cons.mpr ⟨lw_p62, List.forall_mem_cons.mpr ⟨lw_p63, fun _ h => absurd h List.not_mem_nil⟩⟩⟩⟩⟩⟩⟩⟩⟩⟩⟩⟩⟩⟩⟩⟩
theorem lw_p64 : lw_okq (⟨"ProtoMachineModel", "fresh", "()I"⟩, 54) := ⟨⟨by decide +kernel, by decide +kernel⟩, List.mem_of_getElem? (i := 853) (by decide +kernel), List.mem_of_getElem? (i := 1136) (by decide +kernel), List.mem_of_getElem? (i := 1137) (by decide +kernel)⟩
theorem lw_p65 : lw_okq (⟨"ProtoMachineModel", "make", "(I)I"⟩, 54) := ⟨⟨by decide +kernel, by decide +kernel⟩, List.mem_of_getElem? (i := 853) (by decide +kernel), List.mem_of_getElem? (i := 1140) (by decide +kernel), List.mem_of_getElem? (i := 1141) (by decide +kernel)⟩
theorem lw_p66 : lw_okq (⟨"ProtoMachineModel", "minor", "()Z"⟩, 54) := ⟨⟨by decide +kernel, by decide +kernel⟩, List.mem_of_getElem? (i := 853) (by decide +kernel), List.mem_of_getElem? (i := 1144) (by decide +kernel), List.mem_of_getElem? (i := 1145) (by decide +kernel)⟩
theorem lw_p67 : lw_okq (⟨"ProtoMachineModel", "heldCells", "()I"⟩, 54) := ⟨⟨by decide +kernel, by decide +kernel⟩, List.mem_of_getElem? (i := 853) (by decide +kernel), List.mem_of_getElem? (i := 1148) (by decide +kernel), List.mem_of_getElem? (i := 1149) (by decide +kernel)⟩
theorem lw_p68 : lw_okq (⟨"ProtoMachineModel", "reach", "(Z)V"⟩, 54) := ⟨⟨by decide +kernel, by decide +kernel⟩, List.mem_of_getElem? (i := 853) (by decide +kernel), List.mem_of_getElem? (i := 1152) (by decide +kernel), List.mem_of_getElem? (i := 1153) (by decide +kernel)⟩
theorem lw_p69 : lw_okq (⟨"ProtoMachineModel", "mark", "(II)V"⟩, 54) := ⟨⟨by decide +kernel, by decide +kernel⟩, List.mem_of_getElem? (i := 853) (by decide +kernel), List.mem_of_getElem? (i := 1156) (by decide +kernel), List.mem_of_getElem? (i := 1157) (by decide +kernel)⟩
theorem lw_p70 : lw_okq (⟨"ProtoMachineModel", "sizeOf", "(I)I"⟩, 54) := ⟨⟨by decide +kernel, by decide +kernel⟩, List.mem_of_getElem? (i := 853) (by decide +kernel), List.mem_of_getElem? (i := 1160) (by decide +kernel), List.mem_of_getElem? (i := 1161) (by decide +kernel)⟩
theorem lw_p71 : lw_okq (⟨"ProtoMachineModel", "major", "()I"⟩, 54) := ⟨⟨by decide +kernel, by decide +kernel⟩, List.mem_of_getElem? (i := 853) (by decide +kernel), List.mem_of_getElem? (i := 1164) (by decide +kernel), List.mem_of_getElem? (i := 1165) (by decide +kernel)⟩
theorem lw_p72 : lw_okq (⟨"ProtoMachineModel", "free", "(I)V"⟩, 54) := ⟨⟨by decide +kernel, by decide +kernel⟩, List.mem_of_getElem? (i := 853) (by decide +kernel), List.mem_of_getElem? (i := 1168) (by decide +kernel), List.mem_of_getElem? (i := 1169) (by decide +kernel)⟩
theorem lw_p73 : lw_okq (⟨"ProtoMachineModel", "greatHas", "(I)Z"⟩, 54) := ⟨⟨by decide +kernel, by decide +kernel⟩, List.mem_of_getElem? (i := 853) (by decide +kernel), List.mem_of_getElem? (i := 1172) (by decide +kernel), List.mem_of_getElem? (i := 1173) (by decide +kernel)⟩
theorem lw_p74 : lw_okq (⟨"ProtoMachineModel", "copy", "()I"⟩, 54) := ⟨⟨by decide +kernel, by decide +kernel⟩, List.mem_of_getElem? (i := 853) (by decide +kernel), List.mem_of_getElem? (i := 1176) (by decide +kernel), List.mem_of_getElem? (i := 1177) (by decide +kernel)⟩
theorem lw_p75 : lw_okq (⟨"ProtoMachineModel", "get", "(I)I"⟩, 54) := ⟨⟨by decide +kernel, by decide +kernel⟩, List.mem_of_getElem? (i := 853) (by decide +kernel), List.mem_of_getElem? (i := 1180) (by decide +kernel), List.mem_of_getElem? (i := 1181) (by decide +kernel)⟩
theorem lw_p76 : lw_okq (⟨"ProtoMachineModel", "find", "(III)I"⟩, 54) := ⟨⟨by decide +kernel, by decide +kernel⟩, List.mem_of_getElem? (i := 853) (by decide +kernel), List.mem_of_getElem? (i := 1184) (by decide +kernel), List.mem_of_getElem? (i := 1185) (by decide +kernel)⟩
theorem lw_p77 : lw_okq (⟨"ProtoMachineModel", "chainOf", "(II)I"⟩, 54) := ⟨⟨by decide +kernel, by decide +kernel⟩, List.mem_of_getElem? (i := 853) (by decide +kernel), List.mem_of_getElem? (i := 1188) (by decide +kernel), List.mem_of_getElem? (i := 1189) (by decide +kernel)⟩
theorem lw_p78 : lw_okq (⟨"ProtoMachineModel", "ownSlot", "(II)I"⟩, 54) := ⟨⟨by decide +kernel, by decide +kernel⟩, List.mem_of_getElem? (i := 853) (by decide +kernel), List.mem_of_getElem? (i := 1192) (by decide +kernel), List.mem_of_getElem? (i := 1193) (by decide +kernel)⟩
theorem lw_p79 : lw_okq (⟨"ProtoMachineModel", "meet", "(III)V"⟩, 54) := ⟨⟨by decide +kernel, by decide +kernel⟩, List.mem_of_getElem? (i := 853) (by decide +kernel), List.mem_of_getElem? (i := 1196) (by decide +kernel), List.mem_of_getElem? (i := 1197) (by decide +kernel)⟩
def lw_privs_5 : List (MethodName × Nat) := [(⟨"ProtoMachineModel", "fresh", "()I"⟩, 54), (⟨"ProtoMachineModel", "make", "(I)I"⟩, 54), (⟨"ProtoMachineModel", "minor", "()Z"⟩, 54), (⟨"ProtoMachineModel", "heldCells", "()I"⟩, 54), (⟨"ProtoMachineModel", "reach", "(Z)V"⟩, 54), (⟨"ProtoMachineModel", "mark", "(II)V"⟩, 54), (⟨"ProtoMachineModel", "sizeOf", "(I)I"⟩, 54), (⟨"ProtoMachineModel", "major", "()I"⟩, 54), (⟨"ProtoMachineModel", "free", "(I)V"⟩, 54), (⟨"ProtoMachineModel", "greatHas", "(I)Z"⟩, 54), (⟨"ProtoMachineModel", "copy", "()I"⟩, 54), (⟨"ProtoMachineModel", "get", "(I)I"⟩, 54), (⟨"ProtoMachineModel", "find", "(III)I"⟩, 54), (⟨"ProtoMachineModel", "chainOf", "(II)I"⟩, 54), (⟨"ProtoMachineModel", "ownSlot", "(II)I"⟩, 54), (⟨"ProtoMachineModel", "meet", "(III)V"⟩, 54)]
theorem lw_r5 : ∀ q ∈ lw_privs_5, lw_okq q := List.forall_mem_cons.mpr ⟨lw_p64, List.forall_mem_cons.mpr ⟨lw_p65, List.forall_mem_cons.mpr ⟨lw_p66, List.forall_mem_cons.mpr ⟨lw_p67, List.forall_mem_cons.mpr ⟨lw_p68, List.forall_mem_cons.mpr ⟨lw_p69, List.forall_mem_cons.mpr ⟨lw_p70, List.forall_mem_cons.mpr ⟨lw_p71, List.forall_mem_cons.mpr ⟨lw_p72, List.forall_mem_cons.mpr ⟨lw_p73, List.forall_mem_cons.mpr ⟨lw_p74, List.forall_mem_cons.mpr ⟨lw_p75, List.forall_mem_cons.mpr ⟨lw_p76, List.forall_mem_cons.mpr ⟨lw_p77, List.forall_mem_cons.mpr ⟨lw_p78, List.forall_mem_cons.mpr ⟨lw_p79, fun _ h => absurd h List.not_mem_nil⟩⟩⟩⟩⟩⟩⟩⟩⟩⟩⟩⟩⟩⟩⟩⟩
theorem lw_p80 : lw_okq (⟨"ProtoMachineModel", "remembers", "(III)Z"⟩, 54) := ⟨⟨by decide +kernel, by decide +kernel⟩, List.mem_of_getElem? (i := 853) (by decide +kernel), List.mem_of_getElem? (i := 1200) (by decide +kernel), List.mem_of_getElem? (i := 1201) (by decide +kernel)⟩
theorem lw_p81 : lw_okq (⟨"ProtoMachineModel", "serialAt", "(I)I"⟩, 54) := ⟨⟨by decide +kernel, by decide +kernel⟩, List.mem_of_getElem? (i := 853) (by decide +kernel), List.mem_of_getElem? (i := 1204) (by decide +kernel), List.mem_of_getElem? (i := 1205) (by decide +kernel)⟩
theorem lw_p82 : lw_okq (⟨"ProtoMachineModel", "isCalm", "(III)Z"⟩, 54) := ⟨⟨by decide +kernel, by decide +kernel⟩, List.mem_of_getElem? (i := 853) (by decide +kernel), List.mem_of_getElem? (i := 1208) (by decide +kernel), List.mem_of_getElem? (i := 1209) (by decide +kernel)⟩
theorem lw_p83 : lw_okq (⟨"ProtoMachineModel", "set", "(I)I"⟩, 54) := ⟨⟨by decide +kernel, by decide +kernel⟩, List.mem_of_getElem? (i := 853) (by decide +kernel), List.mem_of_getElem? (i := 1212) (by decide +kernel), List.mem_of_getElem? (i := 1213) (by decide +kernel)⟩
theorem lw_p84 : lw_okq (⟨"ProtoMachineModel", "widen", "(I)Z"⟩, 54) := ⟨⟨by decide +kernel, by decide +kernel⟩, List.mem_of_getElem? (i := 853) (by decide +kernel), List.mem_of_getElem? (i := 1216) (by decide +kernel), List.mem_of_getElem? (i := 1217) (by decide +kernel)⟩
theorem lw_p85 : lw_okq (⟨"ProtoMachineModel", "touch", "(I)V"⟩, 54) := ⟨⟨by decide +kernel, by decide +kernel⟩, List.mem_of_getElem? (i := 853) (by decide +kernel), List.mem_of_getElem? (i := 1220) (by decide +kernel), List.mem_of_getElem? (i := 1221) (by decide +kernel)⟩
theorem lw_p86 : lw_okq (⟨"ProtoMachineModel", "drop", "(I)I"⟩, 54) := ⟨⟨by decide +kernel, by decide +kernel⟩, List.mem_of_getElem? (i := 853) (by decide +kernel), List.mem_of_getElem? (i := 1224) (by decide +kernel), List.mem_of_getElem? (i := 1225) (by decide +kernel)⟩
theorem lw_p87 : lw_okq (⟨"ProtoMachineModel", "parent", "()I"⟩, 54) := ⟨⟨by decide +kernel, by decide +kernel⟩, List.mem_of_getElem? (i := 853) (by decide +kernel), List.mem_of_getElem? (i := 1228) (by decide +kernel), List.mem_of_getElem? (i := 1229) (by decide +kernel)⟩
theorem lw_p88 : lw_okq (⟨"ProtoMachineModel", "adopt", "()I"⟩, 54) := ⟨⟨by decide +kernel, by decide +kernel⟩, List.mem_of_getElem? (i := 853) (by decide +kernel), List.mem_of_getElem? (i := 1232) (by decide +kernel), List.mem_of_getElem? (i := 1233) (by decide +kernel)⟩
theorem lw_p89 : lw_okq (⟨"ProtoMachineModel", "proto", "(I)I"⟩, 54) := ⟨⟨by decide +kernel, by decide +kernel⟩, List.mem_of_getElem? (i := 853) (by decide +kernel), List.mem_of_getElem? (i := 1236) (by decide +kernel), List.mem_of_getElem? (i := 1237) (by decide +kernel)⟩
theorem lw_p90 : lw_okq (⟨"ProtoMachineModel", "send", "(II)I"⟩, 54) := ⟨⟨by decide +kernel, by decide +kernel⟩, List.mem_of_getElem? (i := 853) (by decide +kernel), List.mem_of_getElem? (i := 1240) (by decide +kernel), List.mem_of_getElem? (i := 1241) (by decide +kernel)⟩
theorem lw_p91 : lw_okq (⟨"ProtoMachineModel", "giveBack", "()I"⟩, 54) := ⟨⟨by decide +kernel, by decide +kernel⟩, List.mem_of_getElem? (i := 853) (by decide +kernel), List.mem_of_getElem? (i := 1244) (by decide +kernel), List.mem_of_getElem? (i := 1245) (by decide +kernel)⟩
theorem lw_p92 : lw_okq (⟨"ProtoMachineModel", "print", "()I"⟩, 54) := ⟨⟨by decide +kernel, by decide +kernel⟩, List.mem_of_getElem? (i := 853) (by decide +kernel), List.mem_of_getElem? (i := 1248) (by decide +kernel), List.mem_of_getElem? (i := 1249) (by decide +kernel)⟩
theorem lw_p93 : lw_okq (⟨"ProtoMachineModel", "objects", "(Z)I"⟩, 54) := ⟨⟨by decide +kernel, by decide +kernel⟩, List.mem_of_getElem? (i := 853) (by decide +kernel), List.mem_of_getElem? (i := 1272) (by decide +kernel), List.mem_of_getElem? (i := 1273) (by decide +kernel)⟩
theorem lw_p94 : lw_okq (⟨"ProtoMachineModel", "tell", "(III)I"⟩, 54) := ⟨⟨by decide +kernel, by decide +kernel⟩, List.mem_of_getElem? (i := 853) (by decide +kernel), List.mem_of_getElem? (i := 1280) (by decide +kernel), List.mem_of_getElem? (i := 1281) (by decide +kernel)⟩
theorem lw_p95 : lw_okq (⟨"ProtoMachineModel", "placeOf", "(I)I"⟩, 54) := ⟨⟨by decide +kernel, by decide +kernel⟩, List.mem_of_getElem? (i := 853) (by decide +kernel), List.mem_of_getElem? (i := 1292) (by decide +kernel), List.mem_of_getElem? (i := 1293) (by decide +kernel)⟩
def lw_privs_6 : List (MethodName × Nat) := [(⟨"ProtoMachineModel", "remembers", "(III)Z"⟩, 54), (⟨"ProtoMachineModel", "serialAt", "(I)I"⟩, 54), (⟨"ProtoMachineModel", "isCalm", "(III)Z"⟩, 54), (⟨"ProtoMachineModel", "set", "(I)I"⟩, 54), (⟨"ProtoMachineModel", "widen", "(I)Z"⟩, 54), (⟨"ProtoMachineModel", "touch", "(I)V"⟩, 54), (⟨"ProtoMachineModel", "drop", "(I)I"⟩, 54), (⟨"ProtoMachineModel", "parent", "()I"⟩, 54), (⟨"ProtoMachineModel", "adopt", "()I"⟩, 54), (⟨"ProtoMachineModel", "proto", "(I)I"⟩, 54), (⟨"ProtoMachineModel", "send", "(II)I"⟩, 54), (⟨"ProtoMachineModel", "giveBack", "()I"⟩, 54), (⟨"ProtoMachineModel", "print", "()I"⟩, 54), (⟨"ProtoMachineModel", "objects", "(Z)I"⟩, 54), (⟨"ProtoMachineModel", "tell", "(III)I"⟩, 54), (⟨"ProtoMachineModel", "placeOf", "(I)I"⟩, 54)]
theorem lw_r6 : ∀ q ∈ lw_privs_6, lw_okq q := List.forall_mem_cons.mpr ⟨lw_p80, List.forall_mem_cons.mpr ⟨lw_p81, List.forall_mem_cons.mpr ⟨lw_p82, List.forall_mem_cons.mpr ⟨lw_p83, List.forall_mem_cons.mpr ⟨lw_p84, List.forall_mem_cons.mpr ⟨lw_p85, List.forall_mem_cons.mpr ⟨lw_p86, List.forall_mem_cons.mpr ⟨lw_p87, List.forall_mem_cons.mpr ⟨lw_p88, List.forall_mem_cons.mpr ⟨lw_p89, List.forall_mem_cons.mpr ⟨lw_p90, List.forall_mem_cons.mpr ⟨lw_p91, List.forall_mem_cons.mpr ⟨lw_p92, List.forall_mem_cons.mpr ⟨lw_p93, List.forall_mem_cons.mpr ⟨lw_p94, List.forall_mem_cons.mpr ⟨lw_p95, fun _ h => absurd h List.not_mem_nil⟩⟩⟩⟩⟩⟩⟩⟩⟩⟩⟩⟩⟩⟩⟩⟩
def lw_privs : List (MethodName × Nat) := lw_privs_1 ++ (lw_privs_2 ++ (lw_privs_3 ++ (lw_privs_4 ++ (lw_privs_5 ++ (lw_privs_6)))))
def lw_tbl : List Cond := k2_sels lw_privs ++ tables_1
theorem lw_privs_ok : ∀ q ∈ lw_privs, lw_okq q := by
  show ∀ q ∈ lw_privs_1 ++ (lw_privs_2 ++ (lw_privs_3 ++ (lw_privs_4 ++ (lw_privs_5 ++ (lw_privs_6))))), lw_okq q
  exact List.forall_mem_append.mpr ⟨lw_r1, List.forall_mem_append.mpr ⟨lw_r2, List.forall_mem_append.mpr ⟨lw_r3, List.forall_mem_append.mpr ⟨lw_r4, List.forall_mem_append.mpr ⟨lw_r5, lw_r6⟩⟩⟩⟩⟩
end
section
def RX0 : String := "ProtoMachine$Code"
def TX0 : u_T := fun k => match k with
  | 0 => ("ProtoMachine$Code", "size", "I", false)
  | 1 => ("ProtoMachine$Code", "lastFault", "I", false)
  | 2 => ("ProtoMachine$Code", "words", "[LProtoMachine$Word;", true)
  | 3 => ("ProtoMachine$Code", "places", "[I", true)
  | _ => ("ProtoMachine$Code", "beyond", "LProtoMachine$Word;", true)
def tyX0 : Nat → FieldType := fun k => match k with
  | 0 => .int
  | 1 => .int
  | 2 => .array (.object "ProtoMachine$Word")
  | 3 => .array .int
  | _ => .object "ProtoMachine$Word"
abbrev wsX00 : List Cond := u_ws RX0 TX0 5
theorem nmX0 : ∀ a, a < 5 → ∀ b, b < 5 → a ≠ b → (TX0 a).2.1 ≠ (TX0 b).2.1 := by decide +kernel
theorem tyX0_ok : ∀ k, k < 5 → parseFieldDescriptor (TX0 k).2.2.1 = some (tyX0 k) := by decide +kernel
abbrev cX0_init : ByteArray := prog_2_method_1_code
def yX0_init : MethodName := ⟨RX0, "<init>", "()V"⟩
abbrev cX0_add : ByteArray := prog_2_method_2_code
def yX0_add : MethodName := ⟨RX0, "add", "(III)V"⟩
abbrev cX0_wordAt : ByteArray := prog_2_method_3_code
def yX0_wordAt : MethodName := ⟨RX0, "wordAt", "(I)LProtoMachine$Word;"⟩
abbrev cX0_placeOf : ByteArray := prog_2_method_4_code
def yX0_placeOf : MethodName := ⟨RX0, "placeOf", "(I)I"⟩
abbrev cX0_forgetAll : ByteArray := prog_2_method_5_code
def yX0_forgetAll : MethodName := ⟨RX0, "forgetAll", "()V"⟩
abbrev cX0_firstFault : ByteArray := prog_2_method_6_code
def yX0_firstFault : MethodName := ⟨RX0, "firstFault", "()I"⟩
abbrev cX0_layLabels : ByteArray := prog_2_method_7_code
def yX0_layLabels : MethodName := ⟨RX0, "layLabels", "()V"⟩
abbrev cX0_faultOf : ByteArray := prog_2_method_8_code
def yX0_faultOf : MethodName := ⟨RX0, "faultOf", "(LProtoMachine$Word;I)I"⟩
def RX1 : String := "ProtoMachine$Frame"
def TX1 : u_T := fun k => match k with
  | 0 => ("ProtoMachine$Frame", "below", "LProtoMachine$Frame;", true)
  | 1 => ("ProtoMachine$Frame", "above", "LProtoMachine$Frame;", false)
  | 2 => ("ProtoMachine$Frame", "base", "I", false)
  | 3 => ("ProtoMachine$Frame", "back", "I", false)
  | 4 => ("ProtoMachine$Frame", "count", "I", false)
  | _ => ("ProtoMachine$Frame", "values", "[J", true)
def tyX1 : Nat → FieldType := fun k => match k with
  | 0 => .object "ProtoMachine$Frame"
  | 1 => .object "ProtoMachine$Frame"
  | 2 => .int
  | 3 => .int
  | 4 => .int
  | _ => .array .long
abbrev wsX10 : List Cond := u_ws RX1 TX1 6
theorem nmX1 : ∀ a, a < 6 → ∀ b, b < 6 → a ≠ b → (TX1 a).2.1 ≠ (TX1 b).2.1 := by decide +kernel
theorem tyX1_ok : ∀ k, k < 6 → parseFieldDescriptor (TX1 k).2.2.1 = some (tyX1 k) := by decide +kernel
abbrev cX1_init : ByteArray := prog_3_method_1_code
def yX1_init : MethodName := ⟨RX1, "<init>", "(LProtoMachine$Frame;)V"⟩
abbrev cX1_begin : ByteArray := prog_3_method_2_code
def yX1_begin : MethodName := ⟨RX1, "begin", "(IJ)V"⟩
abbrev cX1_hasLocal : ByteArray := prog_3_method_3_code
def yX1_hasLocal : MethodName := ⟨RX1, "hasLocal", "(I)Z"⟩
abbrev cX1_valueAt : ByteArray := prog_3_method_4_code
def yX1_valueAt : MethodName := ⟨RX1, "valueAt", "(I)J"⟩
abbrev cX1_put : ByteArray := prog_3_method_5_code
def yX1_put : MethodName := ⟨RX1, "put", "(IJ)V"⟩
def RX2 : String := "ProtoMachine$Heap"
def TX2 : u_T := fun k => match k with
  | 0 => ("ProtoMachine$Heap", "youngCells", "I", false)
  | 1 => ("ProtoMachine$Heap", "oldCells", "I", false)
  | 2 => ("ProtoMachine$Heap", "youngThings", "I", false)
  | 3 => ("ProtoMachine$Heap", "oldThings", "I", false)
  | 4 => ("ProtoMachine$Heap", "freed", "I", false)
  | 5 => ("ProtoMachine$Heap", "minors", "I", false)
  | 6 => ("ProtoMachine$Heap", "majors", "I", false)
  | 7 => ("ProtoMachine$Heap", "lastSerial", "I", false)
  | 8 => ("ProtoMachine$Heap", "nursery", "I", true)
  | 9 => ("ProtoMachine$Heap", "great", "I", true)
  | 10 => ("ProtoMachine$Heap", "roots", "LProtoMachine$Roots;", true)
  | 11 => ("ProtoMachine$Heap", "pool", "[LProtoMachine$Thing;", true)
  | 12 => ("ProtoMachine$Heap", "used", "I", false)
  | 13 => ("ProtoMachine$Heap", "spare", "LProtoMachine$Thing;", false)
  | _ => ("ProtoMachine$Heap", "pending", "LProtoMachine$Thing;", false)
def tyX2 : Nat → FieldType := fun k => match k with
  | 0 => .int
  | 1 => .int
  | 2 => .int
  | 3 => .int
  | 4 => .int
  | 5 => .int
  | 6 => .int
  | 7 => .int
  | 8 => .int
  | 9 => .int
  | 10 => .object "ProtoMachine$Roots"
  | 11 => .array (.object "ProtoMachine$Thing")
  | 12 => .int
  | 13 => .object "ProtoMachine$Thing"
  | _ => .object "ProtoMachine$Thing"
abbrev wsX20 : List Cond := u_ws RX2 TX2 15
theorem nmX2 : ∀ a, a < 15 → ∀ b, b < 15 → a ≠ b → (TX2 a).2.1 ≠ (TX2 b).2.1 := by decide +kernel
theorem tyX2_ok : ∀ k, k < 15 → parseFieldDescriptor (TX2 k).2.2.1 = some (tyX2 k) := by decide +kernel
abbrev cX2_init : ByteArray := prog_4_method_1_code
def yX2_init : MethodName := ⟨RX2, "<init>", "(IILProtoMachine$Roots;)V"⟩
abbrev cX2_clear : ByteArray := prog_4_method_2_code
def yX2_clear : MethodName := ⟨RX2, "clear", "()V"⟩
abbrev cX2_thingOf : ByteArray := prog_4_method_3_code
def yX2_thingOf : MethodName := ⟨RX2, "thingOf", "(J)LProtoMachine$Thing;"⟩
abbrev cX2_outward : ByteArray := prog_4_method_4_code
def yX2_outward : MethodName := ⟨RX2, "outward", "(J)J"⟩
abbrev cX2_withSerial : ByteArray := prog_4_method_5_code
def yX2_withSerial : MethodName := ⟨RX2, "withSerial", "(I)LProtoMachine$Thing;"⟩
abbrev cX2_make : ByteArray := prog_4_method_6_code
def yX2_make : MethodName := ⟨RX2, "make", "(I)LProtoMachine$Thing;"⟩
abbrev cX2_addSlot : ByteArray := prog_4_method_7_code
def yX2_addSlot : MethodName := ⟨RX2, "addSlot", "(LProtoMachine$Thing;IJ)V"⟩
abbrev cX2_removeSlot : ByteArray := prog_4_method_8_code
def yX2_removeSlot : MethodName := ⟨RX2, "removeSlot", "(LProtoMachine$Thing;I)V"⟩
abbrev cX2_hasRoomToMake : ByteArray := prog_4_method_9_code
def yX2_hasRoomToMake : MethodName := ⟨RX2, "hasRoomToMake", "(I)Z"⟩
abbrev cX2_hasRoomForSlot : ByteArray := prog_4_method_10_code
def yX2_hasRoomForSlot : MethodName := ⟨RX2, "hasRoomForSlot", "(LProtoMachine$Thing;)Z"⟩
abbrev cX2_minor : ByteArray := prog_4_method_11_code
def yX2_minor : MethodName := ⟨RX2, "minor", "()I"⟩
abbrev cX2_major : ByteArray := prog_4_method_12_code
def yX2_major : MethodName := ⟨RX2, "major", "()I"⟩
abbrev cX2_youngLeft : ByteArray := prog_4_method_13_code
def yX2_youngLeft : MethodName := ⟨RX2, "youngLeft", "()I"⟩
abbrev cX2_oldLeft : ByteArray := prog_4_method_14_code
def yX2_oldLeft : MethodName := ⟨RX2, "oldLeft", "()I"⟩
abbrev cX2_freeUnmarked : ByteArray := prog_4_method_15_code
def yX2_freeUnmarked : MethodName := ⟨RX2, "freeUnmarked", "()I"⟩
abbrev cX2_unused : ByteArray := prog_4_method_16_code
def yX2_unused : MethodName := ⟨RX2, "unused", "()LProtoMachine$Thing;"⟩
abbrev cX2_admit : ByteArray := prog_4_method_17_code
def yX2_admit : MethodName := ⟨RX2, "admit", "(ZII)V"⟩
abbrev cX2_leaveNursery : ByteArray := prog_4_method_18_code
def yX2_leaveNursery : MethodName := ⟨RX2, "leaveNursery", "(LProtoMachine$Thing;)V"⟩
abbrev cX2_free : ByteArray := prog_4_method_19_code
def yX2_free : MethodName := ⟨RX2, "free", "(LProtoMachine$Thing;)V"⟩
abbrev cX2_youngMarked : ByteArray := prog_4_method_20_code
def yX2_youngMarked : MethodName := ⟨RX2, "youngMarked", "()I"⟩
abbrev cX2_mark : ByteArray := prog_4_method_21_code
def yX2_mark : MethodName := ⟨RX2, "mark", "(Z)V"⟩
abbrev cX2_reachRow : ByteArray := prog_4_method_22_code
def yX2_reachRow : MethodName := ⟨RX2, "reachRow", "([JI)V"⟩
abbrev cX2_reach : ByteArray := prog_4_method_23_code
def yX2_reach : MethodName := ⟨RX2, "reach", "(LProtoMachine$Thing;)V"⟩
def RX3 : String := "ProtoMachine$Memory"
def TX3 : u_T := fun k => match k with
  | 0 => ("ProtoMachine$Memory", "step", "I", false)
  | 1 => ("ProtoMachine$Memory", "kind", "I", false)
  | 2 => ("ProtoMachine$Memory", "above", "I", false)
  | 3 => ("ProtoMachine$Memory", "count", "I", false)
  | _ => ("ProtoMachine$Memory", "names", "[B", true)
def tyX3 : Nat → FieldType := fun k => match k with
  | 0 => .int
  | 1 => .int
  | 2 => .int
  | 3 => .int
  | _ => .array .byte
abbrev wsX30 : List Cond := u_ws RX3 TX3 5
theorem nmX3 : ∀ a, a < 5 → ∀ b, b < 5 → a ≠ b → (TX3 a).2.1 ≠ (TX3 b).2.1 := by decide +kernel
theorem tyX3_ok : ∀ k, k < 5 → parseFieldDescriptor (TX3 k).2.2.1 = some (tyX3 k) := by decide +kernel
abbrev cX3_init : ByteArray := prog_5_method_1_code
def yX3_init : MethodName := ⟨RX3, "<init>", "()V"⟩
abbrev cX3_isOf : ByteArray := prog_5_method_2_code
def yX3_isOf : MethodName := ⟨RX3, "isOf", "(ILProtoMachine$Thing;LProtoMachine$Thing;)Z"⟩
abbrev cX3_note : ByteArray := prog_5_method_3_code
def yX3_note : MethodName := ⟨RX3, "note", "(IILProtoMachine$Thing;LProtoMachine$Thing;)V"⟩
abbrev cX3_hasNamesOf : ByteArray := prog_5_method_4_code
def yX3_hasNamesOf : MethodName := ⟨RX3, "hasNamesOf", "(LProtoMachine$Thing;)Z"⟩
def RX4 : String := "ProtoMachine$Output"
def TX4 : u_T := fun k => match k with
  | 0 => ("ProtoMachine$Output", "count", "I", false)
  | _ => ("ProtoMachine$Output", "values", "[J", true)
def tyX4 : Nat → FieldType := fun k => match k with
  | 0 => .int
  | _ => .array .long
abbrev wsX40 : List Cond := u_ws RX4 TX4 2
theorem nmX4 : ∀ a, a < 2 → ∀ b, b < 2 → a ≠ b → (TX4 a).2.1 ≠ (TX4 b).2.1 := by decide +kernel
theorem tyX4_ok : ∀ k, k < 2 → parseFieldDescriptor (TX4 k).2.2.1 = some (tyX4 k) := by decide +kernel
abbrev cX4_init : ByteArray := prog_6_method_1_code
def yX4_init : MethodName := ⟨RX4, "<init>", "()V"⟩
abbrev cX4_add : ByteArray := prog_6_method_2_code
def yX4_add : MethodName := ⟨RX4, "add", "(J)V"⟩
abbrev cX4_kept : ByteArray := prog_6_method_3_code
def yX4_kept : MethodName := ⟨RX4, "kept", "()I"⟩
def RX5 : String := "ProtoMachine$Roots"
def TX5 : u_T := fun k => match k with
  | 0 => ("ProtoMachine$Roots", "height", "I", false)
  | 1 => ("ProtoMachine$Roots", "frames", "I", false)
  | 2 => ("ProtoMachine$Roots", "top", "LProtoMachine$Frame;", false)
  | 3 => ("ProtoMachine$Roots", "values", "[J", true)
  | 4 => ("ProtoMachine$Roots", "globals", "[J", true)
  | 5 => ("ProtoMachine$Roots", "protos", "[LProtoMachine$Thing;", true)
  | _ => ("ProtoMachine$Roots", "first", "LProtoMachine$Frame;", true)
def tyX5 : Nat → FieldType := fun k => match k with
  | 0 => .int
  | 1 => .int
  | 2 => .object "ProtoMachine$Frame"
  | 3 => .array .long
  | 4 => .array .long
  | 5 => .array (.object "ProtoMachine$Thing")
  | _ => .object "ProtoMachine$Frame"
abbrev wsX50 : List Cond := u_ws RX5 TX5 7
theorem nmX5 : ∀ a, a < 7 → ∀ b, b < 7 → a ≠ b → (TX5 a).2.1 ≠ (TX5 b).2.1 := by decide +kernel
theorem tyX5_ok : ∀ k, k < 7 → parseFieldDescriptor (TX5 k).2.2.1 = some (tyX5 k) := by decide +kernel
abbrev cX5_init : ByteArray := prog_7_method_1_code
def yX5_init : MethodName := ⟨RX5, "<init>", "()V"⟩
abbrev cX5_clear : ByteArray := prog_7_method_2_code
def yX5_clear : MethodName := ⟨RX5, "clear", "()V"⟩
abbrev cX5_ofFrame : ByteArray := prog_7_method_3_code
def yX5_ofFrame : MethodName := ⟨RX5, "ofFrame", "()I"⟩
abbrev cX5_fromAbove : ByteArray := prog_7_method_4_code
def yX5_fromAbove : MethodName := ⟨RX5, "fromAbove", "(I)J"⟩
abbrev cX5_push : ByteArray := prog_7_method_5_code
def yX5_push : MethodName := ⟨RX5, "push", "(J)Z"⟩
abbrev cX5_take : ByteArray := prog_7_method_6_code
def yX5_take : MethodName := ⟨RX5, "take", "()J"⟩
abbrev cX5_lower : ByteArray := prog_7_method_7_code
def yX5_lower : MethodName := ⟨RX5, "lower", "(I)V"⟩
abbrev cX5_enter : ByteArray := prog_7_method_8_code
def yX5_enter : MethodName := ⟨RX5, "enter", "(JIII)V"⟩
abbrev cX5_leave : ByteArray := prog_7_method_9_code
def yX5_leave : MethodName := ⟨RX5, "leave", "()V"⟩
abbrev cX5_globalAt : ByteArray := prog_7_method_10_code
def yX5_globalAt : MethodName := ⟨RX5, "globalAt", "(I)J"⟩
abbrev cX5_putGlobal : ByteArray := prog_7_method_11_code
def yX5_putGlobal : MethodName := ⟨RX5, "putGlobal", "(IJ)V"⟩
abbrev cX5_protoOf : ByteArray := prog_7_method_12_code
def yX5_protoOf : MethodName := ⟨RX5, "protoOf", "(I)LProtoMachine$Thing;"⟩
abbrev cX5_putProto : ByteArray := prog_7_method_13_code
def yX5_putProto : MethodName := ⟨RX5, "putProto", "(ILProtoMachine$Thing;)V"⟩
def RX6 : String := "ProtoMachine$Thing"
def TX6 : u_T := fun k => match k with
  | 0 => ("ProtoMachine$Thing", "index", "I", true)
  | 1 => ("ProtoMachine$Thing", "names", "[B", true)
  | 2 => ("ProtoMachine$Thing", "values", "[J", true)
  | 3 => ("ProtoMachine$Thing", "serial", "I", false)
  | 4 => ("ProtoMachine$Thing", "count", "I", false)
  | 5 => ("ProtoMachine$Thing", "changed", "I", false)
  | 6 => ("ProtoMachine$Thing", "parent", "LProtoMachine$Thing;", false)
  | 7 => ("ProtoMachine$Thing", "live", "Z", false)
  | 8 => ("ProtoMachine$Thing", "old", "Z", false)
  | 9 => ("ProtoMachine$Thing", "marked", "Z", false)
  | _ => ("ProtoMachine$Thing", "waiting", "LProtoMachine$Thing;", false)
def tyX6 : Nat → FieldType := fun k => match k with
  | 0 => .int
  | 1 => .array .byte
  | 2 => .array .long
  | 3 => .int
  | 4 => .int
  | 5 => .int
  | 6 => .object "ProtoMachine$Thing"
  | 7 => .boolean
  | 8 => .boolean
  | 9 => .boolean
  | _ => .object "ProtoMachine$Thing"
abbrev wsX60 : List Cond := u_ws RX6 TX6 11
theorem nmX6 : ∀ a, a < 11 → ∀ b, b < 11 → a ≠ b → (TX6 a).2.1 ≠ (TX6 b).2.1 := by decide +kernel
theorem tyX6_ok : ∀ k, k < 11 → parseFieldDescriptor (TX6 k).2.2.1 = some (tyX6 k) := by decide +kernel
abbrev cX6_init : ByteArray := prog_8_method_1_code
def yX6_init : MethodName := ⟨RX6, "<init>", "(I)V"⟩
abbrev cX6_size : ByteArray := prog_8_method_2_code
def yX6_size : MethodName := ⟨RX6, "size", "()I"⟩
abbrev cX6_indexOf : ByteArray := prog_8_method_3_code
def yX6_indexOf : MethodName := ⟨RX6, "indexOf", "(I)I"⟩
abbrev cX6_valueOf : ByteArray := prog_8_method_4_code
def yX6_valueOf : MethodName := ⟨RX6, "valueOf", "(I)J"⟩
abbrev cX6_copy : ByteArray := prog_8_method_5_code
def yX6_copy : MethodName := ⟨RX6, "copy", "(LProtoMachine$Thing;)V"⟩
def RX7 : String := "ProtoMachine$Word"
def TX7 : u_T := fun k => match k with
  | 0 => ("ProtoMachine$Word", "op", "I", false)
  | 1 => ("ProtoMachine$Word", "a", "I", false)
  | 2 => ("ProtoMachine$Word", "b", "I", false)
  | _ => ("ProtoMachine$Word", "memory", "LProtoMachine$Memory;", false)
def tyX7 : Nat → FieldType := fun k => match k with
  | 0 => .int
  | 1 => .int
  | 2 => .int
  | _ => .object "ProtoMachine$Memory"
abbrev wsX70 : List Cond := u_ws RX7 TX7 4
theorem nmX7 : ∀ a, a < 4 → ∀ b, b < 4 → a ≠ b → (TX7 a).2.1 ≠ (TX7 b).2.1 := by decide +kernel
theorem tyX7_ok : ∀ k, k < 4 → parseFieldDescriptor (TX7 k).2.2.1 = some (tyX7 k) := by decide +kernel
abbrev cX7_init : ByteArray := prog_9_method_1_code
def yX7_init : MethodName := ⟨RX7, "<init>", "()V"⟩
abbrev cX7_memory : ByteArray := prog_9_method_2_code
def yX7_memory : MethodName := ⟨RX7, "memory", "()LProtoMachine$Memory;"⟩
abbrev cX7_forget : ByteArray := prog_9_method_3_code
def yX7_forget : MethodName := ⟨RX7, "forget", "()V"⟩
abbrev cX7_wanted : ByteArray := prog_9_method_4_code
def yX7_wanted : MethodName := ⟨RX7, "wanted", "()I"⟩
abbrev cX7_kindsAbove : ByteArray := prog_9_method_5_code
def yX7_kindsAbove : MethodName := ⟨RX7, "kindsAbove", "()I"⟩
abbrev cX7_kindsBelow : ByteArray := prog_9_method_6_code
def yX7_kindsBelow : MethodName := ⟨RX7, "kindsBelow", "()I"⟩
abbrev cX7_isOperation : ByteArray := prog_9_method_7_code
def yX7_isOperation : MethodName := ⟨RX7, "isOperation", "()Z"⟩
abbrev cX7_isInRange : ByteArray := prog_9_method_8_code
def yX7_isInRange : MethodName := ⟨RX7, "isInRange", "()Z"⟩
abbrev cX7_goesToLabel : ByteArray := prog_9_method_9_code
def yX7_goesToLabel : MethodName := ⟨RX7, "goesToLabel", "()Z"⟩
abbrev cX7_mostOfA : ByteArray := prog_9_method_10_code
def yX7_mostOfA : MethodName := ⟨RX7, "mostOfA", "()I"⟩
abbrev cX7_mostOfB : ByteArray := prog_9_method_11_code
def yX7_mostOfB : MethodName := ⟨RX7, "mostOfB", "()I"⟩
def RX8 : String := "ProtoMachine"
def TX8 : u_T := fun k => match k with
  | 0 => ("ProtoMachine", "code", "LProtoMachine$Code;", true)
  | 1 => ("ProtoMachine", "heap", "LProtoMachine$Heap;", true)
  | 2 => ("ProtoMachine", "roots", "LProtoMachine$Roots;", true)
  | 3 => ("ProtoMachine", "output", "LProtoMachine$Output;", true)
  | 4 => ("ProtoMachine", "linked", "Z", false)
  | 5 => ("ProtoMachine", "state", "I", false)
  | 6 => ("ProtoMachine", "at", "I", false)
  | 7 => ("ProtoMachine", "next", "I", false)
  | 8 => ("ProtoMachine", "steps", "I", false)
  | 9 => ("ProtoMachine", "hits", "I", false)
  | _ => ("ProtoMachine", "siteSteps", "I", false)
def tyX8 : Nat → FieldType := fun k => match k with
  | 0 => .object "ProtoMachine$Code"
  | 1 => .object "ProtoMachine$Heap"
  | 2 => .object "ProtoMachine$Roots"
  | 3 => .object "ProtoMachine$Output"
  | 4 => .boolean
  | 5 => .int
  | 6 => .int
  | 7 => .int
  | 8 => .int
  | 9 => .int
  | _ => .int
abbrev wsX80 : List Cond := u_ws RX8 TX8 11
theorem nmX8 : ∀ a, a < 11 → ∀ b, b < 11 → a ≠ b → (TX8 a).2.1 ≠ (TX8 b).2.1 := by decide +kernel
theorem tyX8_ok : ∀ k, k < 11 → parseFieldDescriptor (TX8 k).2.2.1 = some (tyX8 k) := by decide +kernel
abbrev cX8_init : ByteArray := prog_1_method_1_code
def yX8_init : MethodName := ⟨RX8, "<init>", "(II)V"⟩
abbrev cX8_asm : ByteArray := prog_1_method_2_code
def yX8_asm : MethodName := ⟨RX8, "asm", "(III)I"⟩
abbrev cX8_wipe : ByteArray := prog_1_method_3_code
def yX8_wipe : MethodName := ⟨RX8, "wipe", "()I"⟩
abbrev cX8_link : ByteArray := prog_1_method_4_code
def yX8_link : MethodName := ⟨RX8, "link", "()I"⟩
abbrev cX8_fault : ByteArray := prog_1_method_5_code
def yX8_fault : MethodName := ⟨RX8, "fault", "()I"⟩
abbrev cX8_step : ByteArray := prog_1_method_6_code
def yX8_step : MethodName := ⟨RX8, "step", "()I"⟩
abbrev cX8_run : ByteArray := prog_1_method_7_code
def yX8_run : MethodName := ⟨RX8, "run", "(I)I"⟩
abbrev cX8_restart : ByteArray := prog_1_method_8_code
def yX8_restart : MethodName := ⟨RX8, "restart", "()I"⟩
abbrev cX8_collectMinor : ByteArray := prog_1_method_9_code
def yX8_collectMinor : MethodName := ⟨RX8, "collectMinor", "()I"⟩
abbrev cX8_collectMajor : ByteArray := prog_1_method_10_code
def yX8_collectMajor : MethodName := ⟨RX8, "collectMajor", "()I"⟩
abbrev cX8_many : ByteArray := prog_1_method_11_code
def yX8_many : MethodName := ⟨RX8, "many", "(I)I"⟩
abbrev cX8_pile : ByteArray := prog_1_method_12_code
def yX8_pile : MethodName := ⟨RX8, "pile", "(II)I"⟩
abbrev cX8_local : ByteArray := prog_1_method_13_code
def yX8_local : MethodName := ⟨RX8, "local", "(II)I"⟩
abbrev cX8_object : ByteArray := prog_1_method_14_code
def yX8_object : MethodName := ⟨RX8, "object", "(II)I"⟩
abbrev cX8_slot : ByteArray := prog_1_method_15_code
def yX8_slot : MethodName := ⟨RX8, "slot", "(III)I"⟩
abbrev cX8_outSize : ByteArray := prog_1_method_16_code
def yX8_outSize : MethodName := ⟨RX8, "outSize", "()I"⟩
abbrev cX8_out : ByteArray := prog_1_method_17_code
def yX8_out : MethodName := ⟨RX8, "out", "(II)I"⟩
abbrev cX8_count : ByteArray := prog_1_method_18_code
def yX8_count : MethodName := ⟨RX8, "count", "(I)I"⟩
abbrev cX8_unlink : ByteArray := prog_1_method_19_code
def yX8_unlink : MethodName := ⟨RX8, "unlink", "()V"⟩
abbrev cX8_beginAnew : ByteArray := prog_1_method_20_code
def yX8_beginAnew : MethodName := ⟨RX8, "beginAnew", "()V"⟩
abbrev cX8_advance : ByteArray := prog_1_method_21_code
def yX8_advance : MethodName := ⟨RX8, "advance", "()V"⟩
abbrev cX8_valuesEnd : ByteArray := prog_1_method_22_code
def yX8_valuesEnd : MethodName := ⟨RX8, "valuesEnd", "(LProtoMachine$Word;)I"⟩
abbrev cX8_roomEnd : ByteArray := prog_1_method_23_code
def yX8_roomEnd : MethodName := ⟨RX8, "roomEnd", "(LProtoMachine$Word;)I"⟩
abbrev cX8_perform : ByteArray := prog_1_method_24_code
def yX8_perform : MethodName := ⟨RX8, "perform", "(LProtoMachine$Word;)I"⟩
abbrev cX8_bring : ByteArray := prog_1_method_25_code
def yX8_bring : MethodName := ⟨RX8, "bring", "(J)I"⟩
abbrev cX8_exchange : ByteArray := prog_1_method_26_code
def yX8_exchange : MethodName := ⟨RX8, "exchange", "(IJ)I"⟩
abbrev cX8_letGo : ByteArray := prog_1_method_27_code
def yX8_letGo : MethodName := ⟨RX8, "letGo", "(I)I"⟩
abbrev cX8_swap : ByteArray := prog_1_method_28_code
def yX8_swap : MethodName := ⟨RX8, "swap", "()I"⟩
abbrev cX8_reckon : ByteArray := prog_1_method_29_code
def yX8_reckon : MethodName := ⟨RX8, "reckon", "(I)I"⟩
abbrev cX8_arithmetic : ByteArray := prog_1_method_30_code
def yX8_arithmetic : MethodName := ⟨RX8, "arithmetic", "(IJJ)J"⟩
abbrev cX8_jump : ByteArray := prog_1_method_31_code
def yX8_jump : MethodName := ⟨RX8, "jump", "(I)I"⟩
abbrev cX8_store : ByteArray := prog_1_method_32_code
def yX8_store : MethodName := ⟨RX8, "store", "(I)I"⟩
abbrev cX8_keep : ByteArray := prog_1_method_33_code
def yX8_keep : MethodName := ⟨RX8, "keep", "(I)I"⟩
abbrev cX8_print : ByteArray := prog_1_method_34_code
def yX8_print : MethodName := ⟨RX8, "print", "()I"⟩
abbrev cX8_giveBack : ByteArray := prog_1_method_35_code
def yX8_giveBack : MethodName := ⟨RX8, "giveBack", "()I"⟩
abbrev cX8_makeNew : ByteArray := prog_1_method_36_code
def yX8_makeNew : MethodName := ⟨RX8, "makeNew", "()I"⟩
abbrev cX8_makeCopy : ByteArray := prog_1_method_37_code
def yX8_makeCopy : MethodName := ⟨RX8, "makeCopy", "()I"⟩
abbrev cX8_get : ByteArray := prog_1_method_38_code
def yX8_get : MethodName := ⟨RX8, "get", "(LProtoMachine$Word;)I"⟩
abbrev cX8_set : ByteArray := prog_1_method_39_code
def yX8_set : MethodName := ⟨RX8, "set", "(I)I"⟩
abbrev cX8_drop : ByteArray := prog_1_method_40_code
def yX8_drop : MethodName := ⟨RX8, "drop", "(I)I"⟩
abbrev cX8_parent : ByteArray := prog_1_method_41_code
def yX8_parent : MethodName := ⟨RX8, "parent", "()I"⟩
abbrev cX8_adopt : ByteArray := prog_1_method_42_code
def yX8_adopt : MethodName := ⟨RX8, "adopt", "()I"⟩
abbrev cX8_proto : ByteArray := prog_1_method_43_code
def yX8_proto : MethodName := ⟨RX8, "proto", "(I)I"⟩
abbrev cX8_send : ByteArray := prog_1_method_44_code
def yX8_send : MethodName := ⟨RX8, "send", "(LProtoMachine$Word;)I"⟩
abbrev cX8_call : ByteArray := prog_1_method_45_code
def yX8_call : MethodName := ⟨RX8, "call", "(JII)I"⟩
abbrev cX8_answer : ByteArray := prog_1_method_46_code
def yX8_answer : MethodName := ⟨RX8, "answer", "(JI)I"⟩
abbrev cX8_chainOf : ByteArray := prog_1_method_47_code
def yX8_chainOf : MethodName := ⟨RX8, "chainOf", "(J)LProtoMachine$Thing;"⟩
abbrev cX8_finder : ByteArray := prog_1_method_48_code
def yX8_finder : MethodName := ⟨RX8, "finder", "(LProtoMachine$Thing;I)LProtoMachine$Thing;"⟩
abbrev cX8_remember : ByteArray := prog_1_method_49_code
def yX8_remember : MethodName := ⟨RX8, "remember", "(LProtoMachine$Word;J)V"⟩
abbrev cX8_isUnchanged : ByteArray := prog_1_method_50_code
def yX8_isUnchanged : MethodName := ⟨RX8, "isUnchanged", "(LProtoMachine$Thing;I)Z"⟩
abbrev cX8_nearest : ByteArray := prog_1_method_51_code
def yX8_nearest : MethodName := ⟨RX8, "nearest", "(III)I"⟩
abbrev cX8_serialOf : ByteArray := prog_1_method_52_code
def yX8_serialOf : MethodName := ⟨RX8, "serialOf", "(LProtoMachine$Thing;)I"⟩
abbrev cX8_pack : ByteArray := prog_1_method_53_code
def yX8_pack : MethodName := ⟨RX8, "pack", "(II)J"⟩
abbrev cX8_valueOfThing : ByteArray := prog_1_method_54_code
def yX8_valueOfThing : MethodName := ⟨RX8, "valueOfThing", "(LProtoMachine$Thing;)J"⟩
abbrev cX8_truth : ByteArray := prog_1_method_55_code
def yX8_truth : MethodName := ⟨RX8, "truth", "(Z)J"⟩
abbrev cX8_kindOf : ByteArray := prog_1_method_56_code
def yX8_kindOf : MethodName := ⟨RX8, "kindOf", "(J)I"⟩
abbrev cX8_numberOf : ByteArray := prog_1_method_57_code
def yX8_numberOf : MethodName := ⟨RX8, "numberOf", "(J)I"⟩
abbrev cX8_isFalse : ByteArray := prog_1_method_58_code
def yX8_isFalse : MethodName := ⟨RX8, "isFalse", "(J)Z"⟩
abbrev cX8_isAmong : ByteArray := prog_1_method_59_code
def yX8_isAmong : MethodName := ⟨RX8, "isAmong", "(JI)Z"⟩
abbrev cX8_told : ByteArray := prog_1_method_60_code
def yX8_told : MethodName := ⟨RX8, "told", "(JI)I"⟩
def RX9 : String := "ProtoMachineModel"
def TX9 : u_T := fun k => match k with
  | 0 => ("ProtoMachineModel", "nursery", "I", true)
  | 1 => ("ProtoMachineModel", "great", "I", true)
  | 2 => ("ProtoMachineModel", "ops", "[I", true)
  | 3 => ("ProtoMachineModel", "as", "[I", true)
  | 4 => ("ProtoMachineModel", "bs", "[I", true)
  | 5 => ("ProtoMachineModel", "words", "I", false)
  | 6 => ("ProtoMachineModel", "labels", "[I", true)
  | 7 => ("ProtoMachineModel", "linked", "Z", false)
  | 8 => ("ProtoMachineModel", "fault", "I", false)
  | 9 => ("ProtoMachineModel", "state", "I", false)
  | 10 => ("ProtoMachineModel", "at", "I", false)
  | 11 => ("ProtoMachineModel", "steps", "I", false)
  | 12 => ("ProtoMachineModel", "pileKind", "[I", true)
  | 13 => ("ProtoMachineModel", "pileNumber", "[I", true)
  | 14 => ("ProtoMachineModel", "piled", "I", false)
  | 15 => ("ProtoMachineModel", "bases", "[I", true)
  | 16 => ("ProtoMachineModel", "backs", "[I", true)
  | 17 => ("ProtoMachineModel", "selfKind", "[I", true)
  | 18 => ("ProtoMachineModel", "selfNumber", "[I", true)
  | 19 => ("ProtoMachineModel", "localMany", "[I", true)
  | 20 => ("ProtoMachineModel", "localKind", "[I", true)
  | 21 => ("ProtoMachineModel", "localNumber", "[I", true)
  | 22 => ("ProtoMachineModel", "frames", "I", false)
  | 23 => ("ProtoMachineModel", "globalKind", "[I", true)
  | 24 => ("ProtoMachineModel", "globalNumber", "[I", true)
  | 25 => ("ProtoMachineModel", "protos", "[I", true)
  | 26 => ("ProtoMachineModel", "outKind", "[I", true)
  | 27 => ("ProtoMachineModel", "outNumber", "[I", true)
  | 28 => ("ProtoMachineModel", "outs", "I", false)
  | 29 => ("ProtoMachineModel", "serials", "[I", true)
  | 30 => ("ProtoMachineModel", "old", "[Z", true)
  | 31 => ("ProtoMachineModel", "parents", "[I", true)
  | 32 => ("ProtoMachineModel", "many", "[I", true)
  | 33 => ("ProtoMachineModel", "changed", "[I", true)
  | 34 => ("ProtoMachineModel", "slotName", "[I", true)
  | 35 => ("ProtoMachineModel", "slotKind", "[I", true)
  | 36 => ("ProtoMachineModel", "slotNumber", "[I", true)
  | 37 => ("ProtoMachineModel", "marked", "[Z", true)
  | 38 => ("ProtoMachineModel", "queue", "[I", true)
  | 39 => ("ProtoMachineModel", "queued", "I", false)
  | 40 => ("ProtoMachineModel", "made", "I", false)
  | 41 => ("ProtoMachineModel", "youngCells", "I", false)
  | 42 => ("ProtoMachineModel", "oldCells", "I", false)
  | 43 => ("ProtoMachineModel", "freed", "I", false)
  | 44 => ("ProtoMachineModel", "minors", "I", false)
  | 45 => ("ProtoMachineModel", "majors", "I", false)
  | 46 => ("ProtoMachineModel", "became", "I", false)
  | 47 => ("ProtoMachineModel", "siteKind", "[I", true)
  | 48 => ("ProtoMachineModel", "siteSerial", "[I", true)
  | 49 => ("ProtoMachineModel", "siteMany", "[I", true)
  | 50 => ("ProtoMachineModel", "siteNames", "[I", true)
  | 51 => ("ProtoMachineModel", "siteStep", "[I", true)
  | 52 => ("ProtoMachineModel", "hits", "I", false)
  | _ => ("ProtoMachineModel", "met", "I", false)
def tyX9 : Nat → FieldType := fun k => match k with
  | 0 => .int
  | 1 => .int
  | 2 => .array .int
  | 3 => .array .int
  | 4 => .array .int
  | 5 => .int
  | 6 => .array .int
  | 7 => .boolean
  | 8 => .int
  | 9 => .int
  | 10 => .int
  | 11 => .int
  | 12 => .array .int
  | 13 => .array .int
  | 14 => .int
  | 15 => .array .int
  | 16 => .array .int
  | 17 => .array .int
  | 18 => .array .int
  | 19 => .array .int
  | 20 => .array .int
  | 21 => .array .int
  | 22 => .int
  | 23 => .array .int
  | 24 => .array .int
  | 25 => .array .int
  | 26 => .array .int
  | 27 => .array .int
  | 28 => .int
  | 29 => .array .int
  | 30 => .array .boolean
  | 31 => .array .int
  | 32 => .array .int
  | 33 => .array .int
  | 34 => .array .int
  | 35 => .array .int
  | 36 => .array .int
  | 37 => .array .boolean
  | 38 => .array .int
  | 39 => .int
  | 40 => .int
  | 41 => .int
  | 42 => .int
  | 43 => .int
  | 44 => .int
  | 45 => .int
  | 46 => .int
  | 47 => .array .int
  | 48 => .array .int
  | 49 => .array .int
  | 50 => .array .int
  | 51 => .array .int
  | 52 => .int
  | _ => .int
abbrev wsX90 : List Cond := u_ws RX9 TX9 54
theorem nmX9 : ∀ a, a < 54 → ∀ b, b < 54 → a ≠ b → (TX9 a).2.1 ≠ (TX9 b).2.1 := by decide +kernel
theorem tyX9_ok : ∀ k, k < 54 → parseFieldDescriptor (TX9 k).2.2.1 = some (tyX9 k) := by decide +kernel
abbrev cX9_init : ByteArray := prog_11_method_1_code
def yX9_init : MethodName := ⟨RX9, "<init>", "(II)V"⟩
abbrev cX9_clear : ByteArray := prog_11_method_2_code
def yX9_clear : MethodName := ⟨RX9, "clear", "()V"⟩
abbrev cX9_asm : ByteArray := prog_11_method_3_code
def yX9_asm : MethodName := ⟨RX9, "asm", "(III)I"⟩
abbrev cX9_wipe : ByteArray := prog_11_method_4_code
def yX9_wipe : MethodName := ⟨RX9, "wipe", "()I"⟩
abbrev cX9_isIn : ByteArray := prog_11_method_5_code
def yX9_isIn : MethodName := ⟨RX9, "isIn", "(III)Z"⟩
abbrev cX9_aFits : ByteArray := prog_11_method_6_code
def yX9_aFits : MethodName := ⟨RX9, "aFits", "(II)Z"⟩
abbrev cX9_bFits : ByteArray := prog_11_method_7_code
def yX9_bFits : MethodName := ⟨RX9, "bFits", "(III)Z"⟩
abbrev cX9_namesLabel : ByteArray := prog_11_method_8_code
def yX9_namesLabel : MethodName := ⟨RX9, "namesLabel", "(I)Z"⟩
abbrev cX9_faultOf : ByteArray := prog_11_method_9_code
def yX9_faultOf : MethodName := ⟨RX9, "faultOf", "(I)I"⟩
abbrev cX9_link : ByteArray := prog_11_method_10_code
def yX9_link : MethodName := ⟨RX9, "link", "()I"⟩
abbrev cX9_fault : ByteArray := prog_11_method_11_code
def yX9_fault : MethodName := ⟨RX9, "fault", "()I"⟩
abbrev cX9_sizeOf : ByteArray := prog_11_method_12_code
def yX9_sizeOf : MethodName := ⟨RX9, "sizeOf", "(I)I"⟩
abbrev cX9_mark : ByteArray := prog_11_method_13_code
def yX9_mark : MethodName := ⟨RX9, "mark", "(II)V"⟩
abbrev cX9_reach : ByteArray := prog_11_method_14_code
def yX9_reach : MethodName := ⟨RX9, "reach", "(Z)V"⟩
abbrev cX9_free : ByteArray := prog_11_method_15_code
def yX9_free : MethodName := ⟨RX9, "free", "(I)V"⟩
abbrev cX9_major : ByteArray := prog_11_method_16_code
def yX9_major : MethodName := ⟨RX9, "major", "()I"⟩
abbrev cX9_heldCells : ByteArray := prog_11_method_17_code
def yX9_heldCells : MethodName := ⟨RX9, "heldCells", "()I"⟩
abbrev cX9_minor : ByteArray := prog_11_method_18_code
def yX9_minor : MethodName := ⟨RX9, "minor", "()Z"⟩
abbrev cX9_greatHas : ByteArray := prog_11_method_19_code
def yX9_greatHas : MethodName := ⟨RX9, "greatHas", "(I)Z"⟩
abbrev cX9_make : ByteArray := prog_11_method_20_code
def yX9_make : MethodName := ⟨RX9, "make", "(I)I"⟩
abbrev cX9_widen : ByteArray := prog_11_method_21_code
def yX9_widen : MethodName := ⟨RX9, "widen", "(I)Z"⟩
abbrev cX9_topKind : ByteArray := prog_11_method_22_code
def yX9_topKind : MethodName := ⟨RX9, "topKind", "(I)I"⟩
abbrev cX9_topNumber : ByteArray := prog_11_method_23_code
def yX9_topNumber : MethodName := ⟨RX9, "topNumber", "(I)I"⟩
abbrev cX9_push : ByteArray := prog_11_method_24_code
def yX9_push : MethodName := ⟨RX9, "push", "(II)V"⟩
abbrev cX9_ends : ByteArray := prog_11_method_25_code
def yX9_ends : MethodName := ⟨RX9, "ends", "(I)I"⟩
abbrev cX9_well : ByteArray := prog_11_method_26_code
def yX9_well : MethodName := ⟨RX9, "well", "(I)I"⟩
abbrev cX9_chainOf : ByteArray := prog_11_method_27_code
def yX9_chainOf : MethodName := ⟨RX9, "chainOf", "(II)I"⟩
abbrev cX9_ownSlot : ByteArray := prog_11_method_28_code
def yX9_ownSlot : MethodName := ⟨RX9, "ownSlot", "(II)I"⟩
abbrev cX9_find : ByteArray := prog_11_method_29_code
def yX9_find : MethodName := ⟨RX9, "find", "(III)I"⟩
abbrev cX9_touch : ByteArray := prog_11_method_30_code
def yX9_touch : MethodName := ⟨RX9, "touch", "(I)V"⟩
abbrev cX9_serialAt : ByteArray := prog_11_method_31_code
def yX9_serialAt : MethodName := ⟨RX9, "serialAt", "(I)I"⟩
abbrev cX9_remembers : ByteArray := prog_11_method_32_code
def yX9_remembers : MethodName := ⟨RX9, "remembers", "(III)Z"⟩
abbrev cX9_isCalm : ByteArray := prog_11_method_33_code
def yX9_isCalm : MethodName := ⟨RX9, "isCalm", "(III)Z"⟩
abbrev cX9_meet : ByteArray := prog_11_method_34_code
def yX9_meet : MethodName := ⟨RX9, "meet", "(III)V"⟩
abbrev cX9_wants : ByteArray := prog_11_method_35_code
def yX9_wants : MethodName := ⟨RX9, "wants", "(II)I"⟩
abbrev cX9_put : ByteArray := prog_11_method_36_code
def yX9_put : MethodName := ⟨RX9, "put", "(II)I"⟩
abbrev cX9_reckon : ByteArray := prog_11_method_37_code
def yX9_reckon : MethodName := ⟨RX9, "reckon", "(I)I"⟩
abbrev cX9_fresh : ByteArray := prog_11_method_38_code
def yX9_fresh : MethodName := ⟨RX9, "fresh", "()I"⟩
abbrev cX9_copy : ByteArray := prog_11_method_39_code
def yX9_copy : MethodName := ⟨RX9, "copy", "()I"⟩
abbrev cX9_get : ByteArray := prog_11_method_40_code
def yX9_get : MethodName := ⟨RX9, "get", "(I)I"⟩
abbrev cX9_set : ByteArray := prog_11_method_41_code
def yX9_set : MethodName := ⟨RX9, "set", "(I)I"⟩
abbrev cX9_drop : ByteArray := prog_11_method_42_code
def yX9_drop : MethodName := ⟨RX9, "drop", "(I)I"⟩
abbrev cX9_parent : ByteArray := prog_11_method_43_code
def yX9_parent : MethodName := ⟨RX9, "parent", "()I"⟩
abbrev cX9_adopt : ByteArray := prog_11_method_44_code
def yX9_adopt : MethodName := ⟨RX9, "adopt", "()I"⟩
abbrev cX9_proto : ByteArray := prog_11_method_45_code
def yX9_proto : MethodName := ⟨RX9, "proto", "(I)I"⟩
abbrev cX9_send : ByteArray := prog_11_method_46_code
def yX9_send : MethodName := ⟨RX9, "send", "(II)I"⟩
abbrev cX9_giveBack : ByteArray := prog_11_method_47_code
def yX9_giveBack : MethodName := ⟨RX9, "giveBack", "()I"⟩
abbrev cX9_print : ByteArray := prog_11_method_48_code
def yX9_print : MethodName := ⟨RX9, "print", "()I"⟩
abbrev cX9_local : ByteArray := prog_11_method_49_code
def yX9_local : MethodName := ⟨RX9, "local", "(I)I"⟩
abbrev cX9_store : ByteArray := prog_11_method_50_code
def yX9_store : MethodName := ⟨RX9, "store", "(I)I"⟩
abbrev cX9_keep : ByteArray := prog_11_method_51_code
def yX9_keep : MethodName := ⟨RX9, "keep", "(I)I"⟩
abbrev cX9_isFalse : ByteArray := prog_11_method_52_code
def yX9_isFalse : MethodName := ⟨RX9, "isFalse", "()Z"⟩
abbrev cX9_unless : ByteArray := prog_11_method_53_code
def yX9_unless : MethodName := ⟨RX9, "unless", "(I)I"⟩
abbrev cX9_swap : ByteArray := prog_11_method_54_code
def yX9_swap : MethodName := ⟨RX9, "swap", "()I"⟩
abbrev cX9_answer : ByteArray := prog_11_method_55_code
def yX9_answer : MethodName := ⟨RX9, "answer", "(ZI)I"⟩
abbrev cX9_simple : ByteArray := prog_11_method_56_code
def yX9_simple : MethodName := ⟨RX9, "simple", "(II)I"⟩
abbrev cX9_oneStep : ByteArray := prog_11_method_57_code
def yX9_oneStep : MethodName := ⟨RX9, "oneStep", "()I"⟩
abbrev cX9_step : ByteArray := prog_11_method_58_code
def yX9_step : MethodName := ⟨RX9, "step", "()I"⟩
abbrev cX9_run : ByteArray := prog_11_method_59_code
def yX9_run : MethodName := ⟨RX9, "run", "(I)I"⟩
abbrev cX9_restart : ByteArray := prog_11_method_60_code
def yX9_restart : MethodName := ⟨RX9, "restart", "()I"⟩
abbrev cX9_collectMinor : ByteArray := prog_11_method_61_code
def yX9_collectMinor : MethodName := ⟨RX9, "collectMinor", "()I"⟩
abbrev cX9_collectMajor : ByteArray := prog_11_method_62_code
def yX9_collectMajor : MethodName := ⟨RX9, "collectMajor", "()I"⟩
abbrev cX9_objects : ByteArray := prog_11_method_63_code
def yX9_objects : MethodName := ⟨RX9, "objects", "(Z)I"⟩
abbrev cX9_many : ByteArray := prog_11_method_64_code
def yX9_many : MethodName := ⟨RX9, "many", "(I)I"⟩
abbrev cX9_tell : ByteArray := prog_11_method_65_code
def yX9_tell : MethodName := ⟨RX9, "tell", "(III)I"⟩
abbrev cX9_pile : ByteArray := prog_11_method_66_code
def yX9_pile : MethodName := ⟨RX9, "pile", "(II)I"⟩
abbrev cX9_local_ : ByteArray := prog_11_method_67_code
def yX9_local_ : MethodName := ⟨RX9, "local", "(II)I"⟩
abbrev cX9_placeOf : ByteArray := prog_11_method_68_code
def yX9_placeOf : MethodName := ⟨RX9, "placeOf", "(I)I"⟩
abbrev cX9_object : ByteArray := prog_11_method_69_code
def yX9_object : MethodName := ⟨RX9, "object", "(II)I"⟩
abbrev cX9_slot : ByteArray := prog_11_method_70_code
def yX9_slot : MethodName := ⟨RX9, "slot", "(III)I"⟩
abbrev cX9_outSize : ByteArray := prog_11_method_71_code
def yX9_outSize : MethodName := ⟨RX9, "outSize", "()I"⟩
abbrev cX9_out : ByteArray := prog_11_method_72_code
def yX9_out : MethodName := ⟨RX9, "out", "(II)I"⟩
def RJ9 : String := "java/lang/Math"
abbrev cJ9_max_7cf53 : ByteArray := prog_12_method_65_code
def yJ9_max_7cf53 : MethodName := ⟨RJ9, "max", "(II)I"⟩
abbrev cJ9_min_7cf53 : ByteArray := prog_12_method_69_code
def yJ9_min_7cf53 : MethodName := ⟨RJ9, "min", "(II)I"⟩
def RJ10 : String := "java/lang/System"
def RJ7 : String := "java/util/Arrays"
abbrev cJ7_fill_d0a16 : ByteArray := prog_14_method_101_code
def yJ7_fill_d0a16 : MethodName := ⟨RJ7, "fill", "([JJ)V"⟩
abbrev cJ7_fill_53178 : ByteArray := prog_14_method_103_code
def yJ7_fill_53178 : MethodName := ⟨RJ7, "fill", "([II)V"⟩
def RL : String := "ProtoMachineLaw"
abbrev cL_cell : ByteArray := method_2_code
def yL_cell : MethodName := ⟨RL, "cell", "([II)I"⟩
abbrev cL_law : ByteArray := code
def yL_law : MethodName := ⟨RL, "law", "([I)Z"⟩
abbrev vwCl : List vw_C := [(RX0, TX0, 5), (RX1, TX1, 6), (RX2, TX2, 15), (RX3, TX3, 5), (RX4, TX4, 2), (RX5, TX5, 7), (RX6, TX6, 11), (RX7, TX7, 4), (RX8, TX8, 11), (RX9, TX9, 54)]
end
section
abbrev MD : Type := MethodName × ByteArray × Nat × Option FieldType × Nat × Nat × List Nat × List (Nat × Instr × Nat)
def t_X0_init : List (Nat × Instr × Nat) := [(0, .aload_n 0, 1), (1, .invokespecial 3, 3), (4, .aload_n 0, 1), (5, .sipush 2000, 3), (8, .anewarray 9, 3), (11, .putfield 11, 3), (14, .aload_n 0, 1), (15, .sipush 200, 3), (18, .newarray .int, 2), (20, .putfield 17, 3), (23, .aload_n 0, 1), (24, .new 9, 3), (27, .dup, 1), (28, .invokespecial 21, 3), (31, .putfield 22, 3), (34, .return_, 1)]
def t_X0_add : List (Nat × Instr × Nat) := [(0, .aload_n 0, 1), (1, .getfield 26, 3), (4, .sipush 2000, 3), (7, .if_icmp .lt 4, 3), (10, .return_, 1), (11, .aload_n 0, 1), (12, .getfield 11, 3), (15, .aload_n 0, 1), (16, .getfield 26, 3), (19, .aaload, 1), (20, .ifnonnull 19, 3), (23, .aload_n 0, 1), (24, .getfield 11, 3), (27, .aload_n 0, 1), (28, .getfield 26, 3), (31, .new 9, 3), (34, .dup, 1), (35, .invokespecial 21, 3), (38, .aastore, 1), (39, .aload_n 0, 1), (40, .getfield 11, 3), (43, .aload_n 0, 1), (44, .getfield 26, 3), (47, .aaload, 1), (48, .astore 4, 2), (50, .aload 4, 2), (52, .iload_n 1, 1), (53, .putfield 30, 3), (56, .aload 4, 2), (58, .iload_n 2, 1), (59, .putfield 33, 3), (62, .aload 4, 2), (64, .iload_n 3, 1), (65, .putfield 36, 3), (68, .aload_n 0, 1), (69, .dup, 1), (70, .getfield 26, 3), (73, .iconst 1, 1), (74, .iadd, 1), (75, .putfield 26, 3), (78, .return_, 1)]
def t_X0_wordAt : List (Nat × Instr × Nat) := [(0, .iload_n 1, 1), (1, .ifCond .lt 20, 3), (4, .iload_n 1, 1), (5, .aload_n 0, 1), (6, .getfield 26, 3), (9, .if_icmp .ge 12, 3), (12, .aload_n 0, 1), (13, .getfield 11, 3), (16, .iload_n 1, 1), (17, .aaload, 1), (18, .ifnonnull 8, 3), (21, .aload_n 0, 1), (22, .getfield 22, 3), (25, .areturn, 1), (26, .aload_n 0, 1), (27, .getfield 11, 3), (30, .iload_n 1, 1), (31, .aaload, 1), (32, .areturn, 1)]
def t_X0_placeOf : List (Nat × Instr × Nat) := [(0, .iload_n 1, 1), (1, .ifCond .lt 19, 3), (4, .iload_n 1, 1), (5, .sipush 200, 3), (8, .if_icmp .ge 12, 3), (11, .aload_n 0, 1), (12, .getfield 17, 3), (15, .iload_n 1, 1), (16, .iaload, 1), (17, .goto 7, 3), (20, .aload_n 0, 1), (21, .getfield 26, 3), (24, .ireturn, 1)]
def t_X0_forgetAll : List (Nat × Instr × Nat) := [(0, .iconst 0, 1), (1, .istore_n 1, 1), (2, .iload_n 1, 1), (3, .aload_n 0, 1), (4, .getfield 26, 3), (7, .if_icmp .ge 17, 3), (10, .aload_n 0, 1), (11, .iload_n 1, 1), (12, .invokevirtual 39, 3), (15, .invokevirtual 43, 3), (18, .iinc 1 1, 3), (21, .goto (-19), 3), (24, .return_, 1)]
def t_X0_firstFault : List (Nat × Instr × Nat) := [(0, .aload_n 0, 1), (1, .invokevirtual 46, 3), (4, .iconst 0, 1), (5, .istore_n 1, 1), (6, .iload_n 1, 1), (7, .aload_n 0, 1), (8, .getfield 26, 3), (11, .if_icmp .ge 32, 3), (14, .aload_n 0, 1), (15, .aload_n 0, 1), (16, .aload_n 0, 1), (17, .iload_n 1, 1), (18, .invokevirtual 39, 3), (21, .iload_n 1, 1), (22, .invokevirtual 49, 3), (25, .putfield 53, 3), (28, .aload_n 0, 1), (29, .getfield 53, 3), (32, .ifCond .eq 5, 3), (35, .iload_n 1, 1), (36, .ireturn, 1), (37, .iinc 1 1, 3), (40, .goto (-34), 3), (43, .aload_n 0, 1), (44, .iconst 0, 1), (45, .putfield 53, 3), (48, .iconst (-1), 1), (49, .ireturn, 1)]
def t_X0_layLabels : List (Nat × Instr × Nat) := [(0, .aload_n 0, 1), (1, .getfield 17, 3), (4, .iconst (-1), 1), (5, .invokestatic 56, 3), (8, .iconst 0, 1), (9, .istore_n 1, 1), (10, .iload_n 1, 1), (11, .aload_n 0, 1), (12, .getfield 26, 3), (15, .if_icmp .ge 55, 3), (18, .aload_n 0, 1), (19, .iload_n 1, 1), (20, .invokevirtual 39, 3), (23, .astore_n 2, 1), (24, .aload_n 2, 1), (25, .getfield 30, 3), (28, .bipush 33, 2), (30, .if_icmp .ne 34, 3), (33, .aload_n 2, 1), (34, .invokevirtual 62, 3), (37, .ifCond .eq 27, 3), (40, .aload_n 0, 1), (41, .aload_n 2, 1), (42, .getfield 33, 3), (45, .invokevirtual 66, 3), (48, .iconst (-1), 1), (49, .if_icmp .ne 15, 3), (52, .aload_n 0, 1), (53, .getfield 17, 3), (56, .aload_n 2, 1), (57, .getfield 33, 3), (60, .iload_n 1, 1), (61, .iconst 1, 1), (62, .iadd, 1), (63, .iastore, 1), (64, .iinc 1 1, 3), (67, .goto (-57), 3), (70, .return_, 1)]
def t_X0_faultOf : List (Nat × Instr × Nat) := [(0, .aload_n 1, 1), (1, .invokevirtual 70, 3), (4, .ifCond .ne 5, 3), (7, .iconst 1, 1), (8, .ireturn, 1), (9, .aload_n 1, 1), (10, .invokevirtual 62, 3), (13, .ifCond .ne 5, 3), (16, .iconst 2, 1), (17, .ireturn, 1), (18, .aload_n 1, 1), (19, .getfield 30, 3), (22, .bipush 33, 2), (24, .if_icmp .ne 19, 3), (27, .aload_n 0, 1), (28, .aload_n 1, 1), (29, .getfield 33, 3), (32, .invokevirtual 66, 3), (35, .iload_n 2, 1), (36, .iconst 1, 1), (37, .iadd, 1), (38, .if_icmp .eq 5, 3), (41, .iconst 3, 1), (42, .ireturn, 1), (43, .aload_n 1, 1), (44, .invokevirtual 73, 3), (47, .ifCond .eq 19, 3), (50, .aload_n 0, 1), (51, .aload_n 1, 1), (52, .getfield 33, 3), (55, .invokevirtual 66, 3), (58, .iconst (-1), 1), (59, .if_icmp .ne 7, 3), (62, .iconst 4, 1), (63, .goto 4, 3), (66, .iconst 0, 1), (67, .ireturn, 1)]
def t_X1_init : List (Nat × Instr × Nat) := [(0, .aload_n 0, 1), (1, .invokespecial 3, 3), (4, .aload_n 0, 1), (5, .bipush 17, 2), (7, .newarray .long, 2), (9, .putfield 9, 3), (12, .aload_n 0, 1), (13, .aload_n 1, 1), (14, .putfield 15, 3), (17, .return_, 1)]
def t_X1_begin : List (Nat × Instr × Nat) := [(0, .aload_n 0, 1), (1, .getfield 9, 3), (4, .lconst 0, 1), (5, .invokestatic 19, 3), (8, .aload_n 0, 1), (9, .iload_n 1, 1), (10, .putfield 25, 3), (13, .aload_n 0, 1), (14, .getfield 9, 3), (17, .bipush 16, 2), (19, .lload_n 2, 1), (20, .lastore, 1), (21, .return_, 1)]
def t_X1_hasLocal : List (Nat × Instr × Nat) := [(0, .iload_n 1, 1), (1, .ifCond .lt 15, 3), (4, .iload_n 1, 1), (5, .aload_n 0, 1), (6, .getfield 25, 3), (9, .if_icmp .ge 7, 3), (12, .iconst 1, 1), (13, .goto 4, 3), (16, .iconst 0, 1), (17, .ireturn, 1)]
def t_X1_valueAt : List (Nat × Instr × Nat) := [(0, .iload_n 1, 1), (1, .ifCond .lt 18, 3), (4, .iload_n 1, 1), (5, .bipush 16, 2), (7, .if_icmp .gt 12, 3), (10, .aload_n 0, 1), (11, .getfield 9, 3), (14, .iload_n 1, 1), (15, .laload, 1), (16, .goto 4, 3), (19, .lconst 0, 1), (20, .lreturn, 1)]
def t_X1_put : List (Nat × Instr × Nat) := [(0, .aload_n 0, 1), (1, .iload_n 1, 1), (2, .invokevirtual 29, 3), (5, .ifCond .eq 16, 3), (8, .iload_n 1, 1), (9, .bipush 16, 2), (11, .if_icmp .ge 10, 3), (14, .aload_n 0, 1), (15, .getfield 9, 3), (18, .iload_n 1, 1), (19, .lload_n 2, 1), (20, .lastore, 1), (21, .return_, 1)]
def t_X2_init : List (Nat × Instr × Nat) := [(0, .aload_n 0, 1), (1, .invokespecial 3, 3), (4, .aload_n 0, 1), (5, .iload_n 1, 1), (6, .putfield 9, 3), (9, .aload_n 0, 1), (10, .iload_n 2, 1), (11, .putfield 15, 3), (14, .aload_n 0, 1), (15, .aload_n 3, 1), (16, .putfield 18, 3), (19, .aload_n 0, 1), (20, .iload_n 1, 1), (21, .iconst 3, 1), (22, .idiv, 1), (23, .iload_n 2, 1), (24, .iconst 3, 1), (25, .idiv, 1), (26, .iadd, 1), (27, .anewarray 22, 3), (30, .putfield 24, 3), (33, .return_, 1)]
def t_X2_clear : List (Nat × Instr × Nat) := [(0, .aload_n 0, 1), (1, .iconst 0, 1), (2, .putfield 28, 3), (5, .aload_n 0, 1), (6, .iconst 0, 1), (7, .putfield 31, 3), (10, .aload_n 0, 1), (11, .iconst 0, 1), (12, .putfield 34, 3), (15, .aload_n 0, 1), (16, .iconst 0, 1), (17, .putfield 37, 3), (20, .aload_n 0, 1), (21, .iconst 0, 1), (22, .putfield 40, 3), (25, .aload_n 0, 1), (26, .iconst 0, 1), (27, .putfield 43, 3), (30, .aload_n 0, 1), (31, .iconst 0, 1), (32, .putfield 46, 3), (35, .aload_n 0, 1), (36, .iconst 0, 1), (37, .putfield 49, 3), (40, .aload_n 0, 1), (41, .iconst 0, 1), (42, .putfield 52, 3), (45, .aload_n 0, 1), (46, .aconst_null, 1), (47, .putfield 55, 3), (50, .return_, 1)]
def t_X2_thingOf : List (Nat × Instr × Nat) := [(0, .lload_n 1, 1), (1, .l2i, 1), (2, .istore_n 3, 1), (3, .lload_n 1, 1), (4, .bipush 32, 2), (6, .lushr, 1), (7, .ldc2_w 59, 3), (10, .lcmp, 1), (11, .ifCond .ne 24, 3), (14, .iload_n 3, 1), (15, .ifCond .lt 20, 3), (18, .iload_n 3, 1), (19, .aload_n 0, 1), (20, .getfield 52, 3), (23, .if_icmp .ge 12, 3), (26, .aload_n 0, 1), (27, .getfield 24, 3), (30, .iload_n 3, 1), (31, .aaload, 1), (32, .goto 4, 3), (35, .aconst_null, 1), (36, .areturn, 1)]
def t_X2_outward : List (Nat × Instr × Nat) := [(0, .aload_n 0, 1), (1, .lload_n 1, 1), (2, .invokevirtual 61, 3), (5, .astore_n 3, 1), (6, .aload_n 3, 1), (7, .ifnonnull 7, 3), (10, .lload_n 1, 1), (11, .goto 11, 3), (14, .iconst 2, 1), (15, .aload_n 3, 1), (16, .getfield 65, 3), (19, .invokestatic 68, 3), (22, .lreturn, 1)]
def t_X2_withSerial : List (Nat × Instr × Nat) := [(0, .iconst 0, 1), (1, .istore_n 2, 1), (2, .iload_n 2, 1), (3, .aload_n 0, 1), (4, .getfield 52, 3), (7, .if_icmp .ge 37, 3), (10, .aload_n 0, 1), (11, .getfield 24, 3), (14, .iload_n 2, 1), (15, .aaload, 1), (16, .astore_n 3, 1), (17, .aload_n 3, 1), (18, .ifnull 20, 3), (21, .aload_n 3, 1), (22, .getfield 72, 3), (25, .ifCond .eq 13, 3), (28, .aload_n 3, 1), (29, .getfield 65, 3), (32, .iload_n 1, 1), (33, .if_icmp .ne 5, 3), (36, .aload_n 3, 1), (37, .areturn, 1), (38, .iinc 2 1, 3), (41, .goto (-39), 3), (44, .aconst_null, 1), (45, .areturn, 1)]
def t_X2_make : List (Nat × Instr × Nat) := [(0, .aload_n 0, 1), (1, .invokevirtual 76, 3), (4, .astore_n 2, 1), (5, .aload_n 2, 1), (6, .ifnonnull 5, 3), (9, .aconst_null, 1), (10, .areturn, 1), (11, .aload_n 0, 1), (12, .dup, 1), (13, .getfield 49, 3), (16, .iconst 1, 1), (17, .iadd, 1), (18, .putfield 49, 3), (21, .aload_n 2, 1), (22, .aload_n 0, 1), (23, .getfield 49, 3), (26, .putfield 65, 3), (29, .aload_n 2, 1), (30, .iconst 0, 1), (31, .putfield 80, 3), (34, .aload_n 2, 1), (35, .iconst 0, 1), (36, .putfield 83, 3), (39, .aload_n 2, 1), (40, .aconst_null, 1), (41, .putfield 86, 3), (44, .aload_n 2, 1), (45, .iconst 1, 1), (46, .putfield 72, 3), (49, .aload_n 2, 1), (50, .iload_n 1, 1), (51, .aload_n 0, 1), (52, .invokevirtual 89, 3), (55, .if_icmp .le 7, 3), (58, .iconst 1, 1), (59, .goto 4, 3), (62, .iconst 0, 1), (63, .putfield 93, 3), (66, .aload_n 0, 1), (67, .aload_n 2, 1), (68, .getfield 93, 3), (71, .iconst 1, 1), (72, .iload_n 1, 1), (73, .invokevirtual 96, 3), (76, .aload_n 2, 1), (77, .areturn, 1)]
def t_X2_addSlot : List (Nat × Instr × Nat) := [(0, .aload_n 1, 1), (1, .getfield 80, 3), (4, .bipush 40, 2), (6, .if_icmp .lt 4, 3), (9, .return_, 1), (10, .aload_n 1, 1), (11, .getfield 100, 3), (14, .aload_n 1, 1), (15, .getfield 80, 3), (18, .iload_n 2, 1), (19, .i2b, 1), (20, .bastore, 1), (21, .aload_n 1, 1), (22, .getfield 104, 3), (25, .aload_n 1, 1), (26, .getfield 80, 3), (29, .lload_n 3, 1), (30, .lastore, 1), (31, .aload_n 1, 1), (32, .dup, 1), (33, .getfield 80, 3), (36, .iconst 1, 1), (37, .iadd, 1), (38, .putfield 80, 3), (41, .aload_n 0, 1), (42, .aload_n 1, 1), (43, .getfield 93, 3), (46, .iconst 0, 1), (47, .iconst 1, 1), (48, .invokevirtual 96, 3), (51, .return_, 1)]
def t_X2_removeSlot : List (Nat × Instr × Nat) := [(0, .iload_n 2, 1), (1, .ifCond .lt 11, 3), (4, .iload_n 2, 1), (5, .aload_n 1, 1), (6, .getfield 80, 3), (9, .if_icmp .lt 4, 3), (12, .return_, 1), (13, .aload_n 1, 1), (14, .dup, 1), (15, .getfield 80, 3), (18, .iconst 1, 1), (19, .isub, 1), (20, .putfield 80, 3), (23, .aload_n 1, 1), (24, .getfield 80, 3), (27, .iload_n 2, 1), (28, .isub, 1), (29, .istore_n 3, 1), (30, .aload_n 1, 1), (31, .getfield 100, 3), (34, .iload_n 2, 1), (35, .iconst 1, 1), (36, .iadd, 1), (37, .aload_n 1, 1), (38, .getfield 100, 3), (41, .iload_n 2, 1), (42, .iload_n 3, 1), (43, .invokestatic 108, 3), (46, .aload_n 1, 1), (47, .getfield 104, 3), (50, .iload_n 2, 1), (51, .iconst 1, 1), (52, .iadd, 1), (53, .aload_n 1, 1), (54, .getfield 104, 3), (57, .iload_n 2, 1), (58, .iload_n 3, 1), (59, .invokestatic 108, 3), (62, .aload_n 0, 1), (63, .aload_n 1, 1), (64, .getfield 93, 3), (67, .iconst 0, 1), (68, .iconst (-1), 1), (69, .invokevirtual 96, 3), (72, .return_, 1)]
def t_X2_hasRoomToMake : List (Nat × Instr × Nat) := [(0, .aload_n 0, 1), (1, .invokevirtual 89, 3), (4, .iload_n 1, 1), (5, .if_icmp .lt 5, 3), (8, .iconst 1, 1), (9, .ireturn, 1), (10, .aload_n 0, 1), (11, .invokevirtual 114, 3), (14, .bipush (-3), 2), (16, .if_icmp .ne 5, 3), (19, .iconst 0, 1), (20, .ireturn, 1), (21, .aload_n 0, 1), (22, .invokevirtual 89, 3), (25, .iload_n 1, 1), (26, .if_icmp .lt 5, 3), (29, .iconst 1, 1), (30, .ireturn, 1), (31, .aload_n 0, 1), (32, .invokevirtual 117, 3), (35, .iload_n 1, 1), (36, .if_icmp .ge 8, 3), (39, .aload_n 0, 1), (40, .invokevirtual 120, 3), (43, .pop, 1), (44, .aload_n 0, 1), (45, .invokevirtual 117, 3), (48, .iload_n 1, 1), (49, .if_icmp .lt 7, 3), (52, .iconst 1, 1), (53, .goto 4, 3), (56, .iconst 0, 1), (57, .ireturn, 1)]
def t_X2_hasRoomForSlot : List (Nat × Instr × Nat) := [(0, .aload_n 1, 1), (1, .getfield 93, 3), (4, .ifCond .ne 12, 3), (7, .aload_n 0, 1), (8, .invokevirtual 89, 3), (11, .ifCond .le 5, 3), (14, .iconst 1, 1), (15, .ireturn, 1), (16, .aload_n 1, 1), (17, .getfield 93, 3), (20, .ifCond .ne 14, 3), (23, .aload_n 0, 1), (24, .invokevirtual 114, 3), (27, .bipush (-3), 2), (29, .if_icmp .ne 5, 3), (32, .iconst 0, 1), (33, .ireturn, 1), (34, .aload_n 0, 1), (35, .invokevirtual 117, 3), (38, .iconst 1, 1), (39, .if_icmp .ge 8, 3), (42, .aload_n 0, 1), (43, .invokevirtual 120, 3), (46, .pop, 1), (47, .aload_n 0, 1), (48, .invokevirtual 117, 3), (51, .iconst 1, 1), (52, .if_icmp .lt 7, 3), (55, .iconst 1, 1), (56, .goto 4, 3), (59, .iconst 0, 1), (60, .ireturn, 1)]
def t_X2_minor : List (Nat × Instr × Nat) := [(0, .aload_n 0, 1), (1, .iconst 1, 1), (2, .invokevirtual 123, 3), (5, .aload_n 0, 1), (6, .invokevirtual 127, 3), (9, .aload_n 0, 1), (10, .invokevirtual 117, 3), (13, .if_icmp .le 18, 3), (16, .aload_n 0, 1), (17, .iconst 0, 1), (18, .invokevirtual 123, 3), (21, .aload_n 0, 1), (22, .invokevirtual 130, 3), (25, .pop, 1), (26, .aload_n 0, 1), (27, .iconst 1, 1), (28, .invokevirtual 123, 3), (31, .aload_n 0, 1), (32, .invokevirtual 127, 3), (35, .istore_n 1, 1), (36, .iload_n 1, 1), (37, .aload_n 0, 1), (38, .invokevirtual 117, 3), (41, .if_icmp .le 6, 3), (44, .bipush (-3), 2), (46, .ireturn, 1), (47, .iconst 0, 1), (48, .istore_n 2, 1), (49, .iload_n 2, 1), (50, .aload_n 0, 1), (51, .getfield 52, 3), (54, .if_icmp .ge 39, 3), (57, .aload_n 0, 1), (58, .getfield 24, 3), (61, .iload_n 2, 1), (62, .aaload, 1), (63, .astore_n 3, 1), (64, .aload_n 3, 1), (65, .ifnull 22, 3), (68, .aload_n 3, 1), (69, .getfield 72, 3), (72, .ifCond .eq 15, 3), (75, .aload_n 3, 1), (76, .getfield 93, 3), (79, .ifCond .ne 8, 3), (82, .aload_n 0, 1), (83, .aload_n 3, 1), (84, .invokevirtual 133, 3), (87, .iinc 2 1, 3), (90, .goto (-41), 3), (93, .aload_n 0, 1), (94, .dup, 1), (95, .getfield 43, 3), (98, .iconst 1, 1), (99, .iadd, 1), (100, .putfield 43, 3), (103, .iload_n 1, 1), (104, .ireturn, 1)]
def t_X2_major : List (Nat × Instr × Nat) := [(0, .aload_n 0, 1), (1, .iconst 0, 1), (2, .invokevirtual 123, 3), (5, .aload_n 0, 1), (6, .invokevirtual 130, 3), (9, .ireturn, 1)]
def t_X2_youngLeft : List (Nat × Instr × Nat) := [(0, .aload_n 0, 1), (1, .getfield 9, 3), (4, .aload_n 0, 1), (5, .getfield 28, 3), (8, .isub, 1), (9, .ireturn, 1)]
def t_X2_oldLeft : List (Nat × Instr × Nat) := [(0, .aload_n 0, 1), (1, .getfield 15, 3), (4, .aload_n 0, 1), (5, .getfield 31, 3), (8, .isub, 1), (9, .ireturn, 1)]
def t_X2_freeUnmarked : List (Nat × Instr × Nat) := [(0, .iconst 0, 1), (1, .istore_n 1, 1), (2, .iconst 0, 1), (3, .istore_n 2, 1), (4, .iload_n 2, 1), (5, .aload_n 0, 1), (6, .getfield 52, 3), (9, .if_icmp .ge 46, 3), (12, .aload_n 0, 1), (13, .getfield 24, 3), (16, .iload_n 2, 1), (17, .aaload, 1), (18, .astore_n 3, 1), (19, .aload_n 3, 1), (20, .ifnull 29, 3), (23, .aload_n 3, 1), (24, .getfield 72, 3), (27, .ifCond .eq 22, 3), (30, .aload_n 3, 1), (31, .getfield 137, 3), (34, .ifCond .ne 15, 3), (37, .iload_n 1, 1), (38, .aload_n 3, 1), (39, .invokevirtual 140, 3), (42, .iadd, 1), (43, .istore_n 1, 1), (44, .aload_n 0, 1), (45, .aload_n 3, 1), (46, .invokevirtual 143, 3), (49, .iinc 2 1, 3), (52, .goto (-48), 3), (55, .aload_n 0, 1), (56, .dup, 1), (57, .getfield 46, 3), (60, .iconst 1, 1), (61, .iadd, 1), (62, .putfield 46, 3), (65, .iload_n 1, 1), (66, .ireturn, 1)]
def t_X2_unused : List (Nat × Instr × Nat) := [(0, .aload_n 0, 1), (1, .getfield 55, 3), (4, .astore_n 1, 1), (5, .aload_n 1, 1), (6, .ifnull 13, 3), (9, .aload_n 0, 1), (10, .aload_n 1, 1), (11, .getfield 146, 3), (14, .putfield 55, 3), (17, .aload_n 1, 1), (18, .areturn, 1), (19, .aload_n 0, 1), (20, .getfield 52, 3), (23, .aload_n 0, 1), (24, .getfield 24, 3), (27, .arraylength, 1), (28, .if_icmp .lt 5, 3), (31, .aconst_null, 1), (32, .areturn, 1), (33, .aload_n 0, 1), (34, .getfield 24, 3), (37, .aload_n 0, 1), (38, .getfield 52, 3), (41, .aaload, 1), (42, .ifnonnull 23, 3), (45, .aload_n 0, 1), (46, .getfield 24, 3), (49, .aload_n 0, 1), (50, .getfield 52, 3), (53, .new 22, 3), (56, .dup, 1), (57, .aload_n 0, 1), (58, .getfield 52, 3), (61, .invokespecial 149, 3), (64, .aastore, 1), (65, .aload_n 0, 1), (66, .dup, 1), (67, .getfield 52, 3), (70, .iconst 1, 1), (71, .iadd, 1), (72, .putfield 52, 3), (75, .aload_n 0, 1), (76, .getfield 24, 3), (79, .aload_n 0, 1), (80, .getfield 52, 3), (83, .iconst 1, 1), (84, .isub, 1), (85, .aaload, 1), (86, .areturn, 1)]
def t_X2_admit : List (Nat × Instr × Nat) := [(0, .iload_n 1, 1), (1, .ifCond .eq 26, 3), (4, .aload_n 0, 1), (5, .dup, 1), (6, .getfield 37, 3), (9, .iload_n 2, 1), (10, .iadd, 1), (11, .putfield 37, 3), (14, .aload_n 0, 1), (15, .dup, 1), (16, .getfield 31, 3), (19, .iload_n 3, 1), (20, .iadd, 1), (21, .putfield 31, 3), (24, .goto 23, 3), (27, .aload_n 0, 1), (28, .dup, 1), (29, .getfield 34, 3), (32, .iload_n 2, 1), (33, .iadd, 1), (34, .putfield 34, 3), (37, .aload_n 0, 1), (38, .dup, 1), (39, .getfield 28, 3), (42, .iload_n 3, 1), (43, .iadd, 1), (44, .putfield 28, 3), (47, .return_, 1)]
def t_X2_leaveNursery : List (Nat × Instr × Nat) := [(0, .aload_n 1, 1), (1, .getfield 137, 3), (4, .ifCond .ne 9, 3), (7, .aload_n 0, 1), (8, .aload_n 1, 1), (9, .invokevirtual 143, 3), (12, .return_, 1), (13, .aload_n 0, 1), (14, .iconst 0, 1), (15, .iconst (-1), 1), (16, .aload_n 1, 1), (17, .invokevirtual 140, 3), (20, .ineg, 1), (21, .invokevirtual 96, 3), (24, .aload_n 1, 1), (25, .iconst 1, 1), (26, .putfield 93, 3), (29, .aload_n 0, 1), (30, .iconst 1, 1), (31, .iconst 1, 1), (32, .aload_n 1, 1), (33, .invokevirtual 140, 3), (36, .invokevirtual 96, 3), (39, .return_, 1)]
def t_X2_free : List (Nat × Instr × Nat) := [(0, .aload_n 0, 1), (1, .aload_n 1, 1), (2, .getfield 93, 3), (5, .iconst (-1), 1), (6, .aload_n 1, 1), (7, .invokevirtual 140, 3), (10, .ineg, 1), (11, .invokevirtual 96, 3), (14, .aload_n 0, 1), (15, .dup, 1), (16, .getfield 40, 3), (19, .iconst 1, 1), (20, .iadd, 1), (21, .putfield 40, 3), (24, .aload_n 1, 1), (25, .iconst 0, 1), (26, .putfield 72, 3), (29, .aload_n 1, 1), (30, .aload_n 0, 1), (31, .getfield 55, 3), (34, .putfield 146, 3), (37, .aload_n 0, 1), (38, .aload_n 1, 1), (39, .putfield 55, 3), (42, .return_, 1)]
def t_X2_youngMarked : List (Nat × Instr × Nat) := [(0, .iconst 0, 1), (1, .istore_n 1, 1), (2, .iconst 0, 1), (3, .istore_n 2, 1), (4, .iload_n 2, 1), (5, .aload_n 0, 1), (6, .getfield 52, 3), (9, .if_icmp .ge 48, 3), (12, .aload_n 0, 1), (13, .getfield 24, 3), (16, .iload_n 2, 1), (17, .aaload, 1), (18, .astore_n 3, 1), (19, .aload_n 3, 1), (20, .ifnull 31, 3), (23, .aload_n 3, 1), (24, .getfield 72, 3), (27, .ifCond .eq 24, 3), (30, .aload_n 3, 1), (31, .getfield 93, 3), (34, .ifCond .ne 17, 3), (37, .aload_n 3, 1), (38, .getfield 137, 3), (41, .ifCond .eq 10, 3), (44, .iload_n 1, 1), (45, .aload_n 3, 1), (46, .invokevirtual 140, 3), (49, .iadd, 1), (50, .istore_n 1, 1), (51, .iinc 2 1, 3), (54, .goto (-50), 3), (57, .iload_n 1, 1), (58, .ireturn, 1)]
def t_X2_mark : List (Nat × Instr × Nat) := [(0, .aload_n 0, 1), (1, .aconst_null, 1), (2, .putfield 152, 3), (5, .iconst 0, 1), (6, .istore_n 2, 1), (7, .iload_n 2, 1), (8, .aload_n 0, 1), (9, .getfield 52, 3), (12, .if_icmp .ge 25, 3), (15, .aload_n 0, 1), (16, .getfield 24, 3), (19, .iload_n 2, 1), (20, .aaload, 1), (21, .astore_n 3, 1), (22, .aload_n 3, 1), (23, .ifnull 8, 3), (26, .aload_n 3, 1), (27, .iconst 0, 1), (28, .putfield 137, 3), (31, .iinc 2 1, 3), (34, .goto (-27), 3), (37, .aload_n 0, 1), (38, .aload_n 0, 1), (39, .getfield 18, 3), (42, .getfield 155, 3), (45, .aload_n 0, 1), (46, .getfield 18, 3), (49, .getfield 158, 3), (52, .invokevirtual 161, 3), (55, .aload_n 0, 1), (56, .aload_n 0, 1), (57, .getfield 18, 3), (60, .getfield 165, 3), (63, .bipush 16, 2), (65, .invokevirtual 161, 3), (68, .aload_n 0, 1), (69, .getfield 18, 3), (72, .getfield 168, 3), (75, .astore_n 2, 1), (76, .aload_n 2, 1), (77, .ifnull 24, 3), (80, .aload_n 0, 1), (81, .aload_n 2, 1), (82, .getfield 172, 3), (85, .aload_n 2, 1), (86, .getfield 172, 3), (89, .arraylength, 1), (90, .invokevirtual 161, 3), (93, .aload_n 2, 1), (94, .getfield 175, 3), (97, .astore_n 2, 1), (98, .goto (-22), 3), (101, .iconst 0, 1), (102, .istore_n 2, 1), (103, .iload_n 2, 1), (104, .aload_n 0, 1), (105, .getfield 18, 3), (108, .getfield 178, 3), (111, .arraylength, 1), (112, .if_icmp .ge 22, 3), (115, .aload_n 0, 1), (116, .aload_n 0, 1), (117, .getfield 18, 3), (120, .getfield 178, 3), (123, .iload_n 2, 1), (124, .aaload, 1), (125, .invokevirtual 181, 3), (128, .iinc 2 1, 3), (131, .goto (-28), 3), (134, .iconst 0, 1), (135, .istore_n 2, 1), (136, .iload_n 1, 1), (137, .ifCond .eq 47, 3), (140, .iload_n 2, 1), (141, .aload_n 0, 1), (142, .getfield 52, 3), (145, .if_icmp .ge 39, 3), (148, .aload_n 0, 1), (149, .getfield 24, 3), (152, .iload_n 2, 1), (153, .aaload, 1), (154, .astore_n 3, 1), (155, .aload_n 3, 1), (156, .ifnull 22, 3), (159, .aload_n 3, 1), (160, .getfield 72, 3), (163, .ifCond .eq 15, 3), (166, .aload_n 3, 1), (167, .getfield 93, 3), (170, .ifCond .eq 8, 3), (173, .aload_n 0, 1), (174, .aload_n 3, 1), (175, .invokevirtual 181, 3), (178, .iinc 2 1, 3), (181, .goto (-45), 3), (184, .iconst 0, 1), (185, .istore_n 2, 1), (186, .iload_n 2, 1), (187, .aload_n 0, 1), (188, .getfield 52, 3), (191, .if_icmp .ge 49, 3), (194, .aload_n 0, 1), (195, .getfield 152, 3), (198, .ifnull 42, 3), (201, .aload_n 0, 1), (202, .getfield 152, 3), (205, .astore_n 3, 1), (206, .aload_n 0, 1), (207, .aload_n 3, 1), (208, .getfield 146, 3), (211, .putfield 152, 3), (214, .aload_n 0, 1), (215, .aload_n 3, 1), (216, .getfield 86, 3), (219, .invokevirtual 181, 3), (222, .aload_n 0, 1), (223, .aload_n 3, 1), (224, .getfield 104, 3), (227, .aload_n 3, 1), (228, .getfield 80, 3), (231, .invokevirtual 161, 3), (234, .iinc 2 1, 3), (237, .goto (-51), 3), (240, .return_, 1)]
def t_X2_reachRow : List (Nat × Instr × Nat) := [(0, .iconst 0, 1), (1, .istore_n 3, 1), (2, .iload_n 3, 1), (3, .iload_n 2, 1), (4, .if_icmp .ge 26, 3), (7, .iload_n 3, 1), (8, .aload_n 1, 1), (9, .arraylength, 1), (10, .if_icmp .ge 20, 3), (13, .aload_n 0, 1), (14, .aload_n 0, 1), (15, .aload_n 1, 1), (16, .iload_n 3, 1), (17, .laload, 1), (18, .invokevirtual 61, 3), (21, .invokevirtual 181, 3), (24, .iinc 3 1, 3), (27, .goto (-25), 3), (30, .return_, 1)]
def t_X2_reach : List (Nat × Instr × Nat) := [(0, .aload_n 1, 1), (1, .ifnull 28, 3), (4, .aload_n 1, 1), (5, .getfield 137, 3), (8, .ifCond .ne 21, 3), (11, .aload_n 1, 1), (12, .iconst 1, 1), (13, .putfield 137, 3), (16, .aload_n 1, 1), (17, .aload_n 0, 1), (18, .getfield 152, 3), (21, .putfield 146, 3), (24, .aload_n 0, 1), (25, .aload_n 1, 1), (26, .putfield 152, 3), (29, .return_, 1)]
def t_X3_init : List (Nat × Instr × Nat) := [(0, .aload_n 0, 1), (1, .invokespecial 3, 3), (4, .aload_n 0, 1), (5, .bipush 40, 2), (7, .newarray .byte, 2), (9, .putfield 9, 3), (12, .return_, 1)]
def t_X3_isOf : List (Nat × Instr × Nat) := [(0, .aload_n 0, 1), (1, .getfield 15, 3), (4, .ifCond .eq 22, 3), (7, .aload_n 0, 1), (8, .getfield 19, 3), (11, .iload_n 1, 1), (12, .if_icmp .ne 14, 3), (15, .aload_n 0, 1), (16, .getfield 22, 3), (19, .aload_n 2, 1), (20, .invokestatic 25, 3), (23, .if_icmp .eq 5, 3), (26, .iconst 0, 1), (27, .ireturn, 1), (28, .aload_n 3, 1), (29, .ifnull 11, 3), (32, .aload_n 0, 1), (33, .aload_n 3, 1), (34, .invokevirtual 29, 3), (37, .ifCond .eq 7, 3), (40, .iconst 1, 1), (41, .goto 4, 3), (44, .iconst 0, 1), (45, .ireturn, 1)]
def t_X3_note : List (Nat × Instr × Nat) := [(0, .aload_n 0, 1), (1, .iload_n 1, 1), (2, .putfield 15, 3), (5, .aload_n 0, 1), (6, .iload_n 2, 1), (7, .putfield 19, 3), (10, .aload_n 0, 1), (11, .aload_n 3, 1), (12, .invokestatic 25, 3), (15, .putfield 22, 3), (18, .aload 4, 2), (20, .ifnull 30, 3), (23, .aload_n 0, 1), (24, .aload 4, 2), (26, .getfield 33, 3), (29, .putfield 38, 3), (32, .aload 4, 2), (34, .getfield 39, 3), (37, .iconst 0, 1), (38, .aload_n 0, 1), (39, .getfield 9, 3), (42, .iconst 0, 1), (43, .aload_n 0, 1), (44, .getfield 38, 3), (47, .invokestatic 40, 3), (50, .return_, 1)]
def t_X3_hasNamesOf : List (Nat × Instr × Nat) := [(0, .aload_n 0, 1), (1, .getfield 38, 3), (4, .aload_n 1, 1), (5, .getfield 33, 3), (8, .if_icmp .eq 5, 3), (11, .iconst 0, 1), (12, .ireturn, 1), (13, .iconst 0, 1), (14, .istore_n 2, 1), (15, .iload_n 2, 1), (16, .aload_n 0, 1), (17, .getfield 38, 3), (20, .if_icmp .ge 26, 3), (23, .aload_n 0, 1), (24, .getfield 9, 3), (27, .iload_n 2, 1), (28, .baload, 1), (29, .aload_n 1, 1), (30, .getfield 39, 3), (33, .iload_n 2, 1), (34, .baload, 1), (35, .if_icmp .eq 5, 3), (38, .iconst 0, 1), (39, .ireturn, 1), (40, .iinc 2 1, 3), (43, .goto (-28), 3), (46, .iconst 1, 1), (47, .ireturn, 1)]
def t_X4_init : List (Nat × Instr × Nat) := [(0, .aload_n 0, 1), (1, .invokespecial 3, 3), (4, .aload_n 0, 1), (5, .sipush 1000, 3), (8, .newarray .long, 2), (10, .putfield 9, 3), (13, .return_, 1)]
def t_X4_add : List (Nat × Instr × Nat) := [(0, .aload_n 0, 1), (1, .getfield 15, 3), (4, .sipush 1000, 3), (7, .if_icmp .ge 13, 3), (10, .aload_n 0, 1), (11, .getfield 9, 3), (14, .aload_n 0, 1), (15, .getfield 15, 3), (18, .lload_n 1, 1), (19, .lastore, 1), (20, .aload_n 0, 1), (21, .dup, 1), (22, .getfield 15, 3), (25, .iconst 1, 1), (26, .iadd, 1), (27, .putfield 15, 3), (30, .return_, 1)]
def t_X4_kept : List (Nat × Instr × Nat) := [(0, .aload_n 0, 1), (1, .getfield 15, 3), (4, .sipush 1000, 3), (7, .invokestatic 19, 3), (10, .ireturn, 1)]
def t_X5_init : List (Nat × Instr × Nat) := [(0, .aload_n 0, 1), (1, .invokespecial 3, 3), (4, .aload_n 0, 1), (5, .sipush 1000, 3), (8, .newarray .long, 2), (10, .putfield 9, 3), (13, .aload_n 0, 1), (14, .bipush 16, 2), (16, .newarray .long, 2), (18, .putfield 15, 3), (21, .aload_n 0, 1), (22, .iconst 4, 1), (23, .anewarray 18, 3), (26, .putfield 20, 3), (29, .aload_n 0, 1), (30, .new 24, 3), (33, .dup, 1), (34, .aconst_null, 1), (35, .invokespecial 26, 3), (38, .putfield 29, 3), (41, .aload_n 0, 1), (42, .aload_n 0, 1), (43, .getfield 29, 3), (46, .putfield 33, 3), (49, .return_, 1)]
def t_X5_clear : List (Nat × Instr × Nat) := [(0, .aload_n 0, 1), (1, .iconst 0, 1), (2, .putfield 36, 3), (5, .aload_n 0, 1), (6, .iconst 1, 1), (7, .putfield 40, 3), (10, .aload_n 0, 1), (11, .aload_n 0, 1), (12, .getfield 29, 3), (15, .putfield 33, 3), (18, .aload_n 0, 1), (19, .getfield 29, 3), (22, .bipush 16, 2), (24, .lconst 0, 1), (25, .invokevirtual 43, 3), (28, .aload_n 0, 1), (29, .getfield 15, 3), (32, .lconst 0, 1), (33, .invokestatic 47, 3), (36, .iconst 0, 1), (37, .istore_n 1, 1), (38, .iload_n 1, 1), (39, .aload_n 0, 1), (40, .getfield 20, 3), (43, .arraylength, 1), (44, .if_icmp .ge 16, 3), (47, .aload_n 0, 1), (48, .getfield 20, 3), (51, .iload_n 1, 1), (52, .aconst_null, 1), (53, .aastore, 1), (54, .iinc 1 1, 3), (57, .goto (-19), 3), (60, .return_, 1)]
def t_X5_ofFrame : List (Nat × Instr × Nat) := [(0, .aload_n 0, 1), (1, .getfield 36, 3), (4, .aload_n 0, 1), (5, .getfield 33, 3), (8, .getfield 53, 3), (11, .isub, 1), (12, .ireturn, 1)]
def t_X5_fromAbove : List (Nat × Instr × Nat) := [(0, .iload_n 1, 1), (1, .ifCond .lt 27, 3), (4, .iload_n 1, 1), (5, .aload_n 0, 1), (6, .getfield 36, 3), (9, .if_icmp .ge 19, 3), (12, .aload_n 0, 1), (13, .getfield 9, 3), (16, .aload_n 0, 1), (17, .getfield 36, 3), (20, .iconst 1, 1), (21, .isub, 1), (22, .iload_n 1, 1), (23, .isub, 1), (24, .laload, 1), (25, .goto 4, 3), (28, .lconst 0, 1), (29, .lreturn, 1)]
def t_X5_push : List (Nat × Instr × Nat) := [(0, .aload_n 0, 1), (1, .getfield 36, 3), (4, .sipush 1000, 3), (7, .if_icmp .lt 5, 3), (10, .iconst 0, 1), (11, .ireturn, 1), (12, .aload_n 0, 1), (13, .getfield 9, 3), (16, .aload_n 0, 1), (17, .getfield 36, 3), (20, .lload_n 1, 1), (21, .lastore, 1), (22, .aload_n 0, 1), (23, .dup, 1), (24, .getfield 36, 3), (27, .iconst 1, 1), (28, .iadd, 1), (29, .putfield 36, 3), (32, .iconst 1, 1), (33, .ireturn, 1)]
def t_X5_take : List (Nat × Instr × Nat) := [(0, .aload_n 0, 1), (1, .iconst 0, 1), (2, .invokevirtual 56, 3), (5, .lstore_n 1, 1), (6, .aload_n 0, 1), (7, .iconst 1, 1), (8, .invokevirtual 60, 3), (11, .lload_n 1, 1), (12, .lreturn, 1)]
def t_X5_lower : List (Nat × Instr × Nat) := [(0, .aload_n 0, 1), (1, .iconst 0, 1), (2, .aload_n 0, 1), (3, .getfield 36, 3), (6, .iload_n 1, 1), (7, .isub, 1), (8, .invokestatic 64, 3), (11, .putfield 36, 3), (14, .return_, 1)]
def t_X5_enter : List (Nat × Instr × Nat) := [(0, .aload_n 0, 1), (1, .getfield 33, 3), (4, .getfield 70, 3), (7, .ifnonnull 21, 3), (10, .aload_n 0, 1), (11, .getfield 33, 3), (14, .new 24, 3), (17, .dup, 1), (18, .aload_n 0, 1), (19, .getfield 33, 3), (22, .invokespecial 26, 3), (25, .putfield 70, 3), (28, .aload_n 0, 1), (29, .getfield 33, 3), (32, .getfield 70, 3), (35, .astore 6, 2), (37, .aload 6, 2), (39, .iload 4, 2), (41, .lload_n 1, 1), (42, .invokevirtual 43, 3), (45, .iconst 0, 1), (46, .istore 7, 2), (48, .iload 7, 2), (50, .iload_n 3, 1), (51, .if_icmp .ge 26, 3), (54, .aload 6, 2), (56, .iload 7, 2), (58, .aload_n 0, 1), (59, .iload_n 3, 1), (60, .iconst 1, 1), (61, .isub, 1), (62, .iload 7, 2), (64, .isub, 1), (65, .invokevirtual 56, 3), (68, .invokevirtual 73, 3), (71, .iinc 7 1, 3), (74, .goto (-26), 3), (77, .aload_n 0, 1), (78, .iload_n 3, 1), (79, .iconst 1, 1), (80, .iadd, 1), (81, .invokevirtual 60, 3), (84, .aload 6, 2), (86, .aload_n 0, 1), (87, .getfield 36, 3), (90, .putfield 53, 3), (93, .aload 6, 2), (95, .iload 5, 2), (97, .putfield 76, 3), (100, .aload_n 0, 1), (101, .aload 6, 2), (103, .putfield 33, 3), (106, .aload_n 0, 1), (107, .dup, 1), (108, .getfield 40, 3), (111, .iconst 1, 1), (112, .iadd, 1), (113, .putfield 40, 3), (116, .return_, 1)]
def t_X5_leave : List (Nat × Instr × Nat) := [(0, .aload_n 0, 1), (1, .getfield 33, 3), (4, .getfield 79, 3), (7, .ifnonnull 4, 3), (10, .return_, 1), (11, .aload_n 0, 1), (12, .iconst 0, 1), (13, .invokevirtual 56, 3), (16, .lstore_n 1, 1), (17, .aload_n 0, 1), (18, .aload_n 0, 1), (19, .getfield 33, 3), (22, .getfield 53, 3), (25, .putfield 36, 3), (28, .aload_n 0, 1), (29, .aload_n 0, 1), (30, .getfield 33, 3), (33, .getfield 79, 3), (36, .putfield 33, 3), (39, .aload_n 0, 1), (40, .dup, 1), (41, .getfield 40, 3), (44, .iconst 1, 1), (45, .isub, 1), (46, .putfield 40, 3), (49, .aload_n 0, 1), (50, .lload_n 1, 1), (51, .invokevirtual 82, 3), (54, .pop, 1), (55, .return_, 1)]
def t_X5_globalAt : List (Nat × Instr × Nat) := [(0, .iload_n 1, 1), (1, .ifCond .lt 18, 3), (4, .iload_n 1, 1), (5, .bipush 16, 2), (7, .if_icmp .ge 12, 3), (10, .aload_n 0, 1), (11, .getfield 15, 3), (14, .iload_n 1, 1), (15, .laload, 1), (16, .goto 4, 3), (19, .lconst 0, 1), (20, .lreturn, 1)]
def t_X5_putGlobal : List (Nat × Instr × Nat) := [(0, .iload_n 1, 1), (1, .ifCond .lt 16, 3), (4, .iload_n 1, 1), (5, .bipush 16, 2), (7, .if_icmp .ge 10, 3), (10, .aload_n 0, 1), (11, .getfield 15, 3), (14, .iload_n 1, 1), (15, .lload_n 2, 1), (16, .lastore, 1), (17, .return_, 1)]
def t_X5_protoOf : List (Nat × Instr × Nat) := [(0, .iload_n 1, 1), (1, .ifCond .lt 21, 3), (4, .iload_n 1, 1), (5, .aload_n 0, 1), (6, .getfield 20, 3), (9, .arraylength, 1), (10, .if_icmp .ge 12, 3), (13, .aload_n 0, 1), (14, .getfield 20, 3), (17, .iload_n 1, 1), (18, .aaload, 1), (19, .goto 4, 3), (22, .aconst_null, 1), (23, .areturn, 1)]
def t_X5_putProto : List (Nat × Instr × Nat) := [(0, .iload_n 1, 1), (1, .ifCond .lt 19, 3), (4, .iload_n 1, 1), (5, .aload_n 0, 1), (6, .getfield 20, 3), (9, .arraylength, 1), (10, .if_icmp .ge 10, 3), (13, .aload_n 0, 1), (14, .getfield 20, 3), (17, .iload_n 1, 1), (18, .aload_n 2, 1), (19, .aastore, 1), (20, .return_, 1)]
def t_X6_init : List (Nat × Instr × Nat) := [(0, .aload_n 0, 1), (1, .invokespecial 3, 3), (4, .aload_n 0, 1), (5, .bipush 40, 2), (7, .newarray .byte, 2), (9, .putfield 9, 3), (12, .aload_n 0, 1), (13, .bipush 40, 2), (15, .newarray .long, 2), (17, .putfield 15, 3), (20, .aload_n 0, 1), (21, .iload_n 1, 1), (22, .putfield 19, 3), (25, .return_, 1)]
def t_X6_size : List (Nat × Instr × Nat) := [(0, .iconst 3, 1), (1, .aload_n 0, 1), (2, .getfield 23, 3), (5, .iadd, 1), (6, .ireturn, 1)]
def t_X6_indexOf : List (Nat × Instr × Nat) := [(0, .iconst 0, 1), (1, .istore_n 2, 1), (2, .iload_n 2, 1), (3, .aload_n 0, 1), (4, .getfield 23, 3), (7, .if_icmp .ge 21, 3), (10, .aload_n 0, 1), (11, .getfield 9, 3), (14, .iload_n 2, 1), (15, .baload, 1), (16, .iload_n 1, 1), (17, .if_icmp .ne 5, 3), (20, .iload_n 2, 1), (21, .ireturn, 1), (22, .iinc 2 1, 3), (25, .goto (-23), 3), (28, .iconst (-1), 1), (29, .ireturn, 1)]
def t_X6_valueOf : List (Nat × Instr × Nat) := [(0, .aload_n 0, 1), (1, .iload_n 1, 1), (2, .invokevirtual 26, 3), (5, .istore_n 2, 1), (6, .iload_n 2, 1), (7, .iconst (-1), 1), (8, .if_icmp .ne 7, 3), (11, .lconst 0, 1), (12, .goto 9, 3), (15, .aload_n 0, 1), (16, .getfield 15, 3), (19, .iload_n 2, 1), (20, .laload, 1), (21, .lreturn, 1)]
def t_X6_copy : List (Nat × Instr × Nat) := [(0, .aload_n 0, 1), (1, .aload_n 1, 1), (2, .getfield 30, 3), (5, .putfield 30, 3), (8, .aload_n 0, 1), (9, .aload_n 1, 1), (10, .getfield 23, 3), (13, .putfield 23, 3), (16, .aload_n 1, 1), (17, .getfield 9, 3), (20, .iconst 0, 1), (21, .aload_n 0, 1), (22, .getfield 9, 3), (25, .iconst 0, 1), (26, .aload_n 0, 1), (27, .getfield 23, 3), (30, .invokestatic 34, 3), (33, .aload_n 1, 1), (34, .getfield 15, 3), (37, .iconst 0, 1), (38, .aload_n 0, 1), (39, .getfield 15, 3), (42, .iconst 0, 1), (43, .aload_n 0, 1), (44, .getfield 23, 3), (47, .invokestatic 34, 3), (50, .return_, 1)]
def t_X7_init : List (Nat × Instr × Nat) := [(0, .aload_n 0, 1), (1, .invokespecial 3, 3), (4, .return_, 1)]
def t_X7_memory : List (Nat × Instr × Nat) := [(0, .aload_n 0, 1), (1, .getfield 9, 3), (4, .ifnonnull 14, 3), (7, .aload_n 0, 1), (8, .new 15, 3), (11, .dup, 1), (12, .invokespecial 17, 3), (15, .putfield 9, 3), (18, .aload_n 0, 1), (19, .getfield 9, 3), (22, .areturn, 1)]
def t_X7_forget : List (Nat × Instr × Nat) := [(0, .aload_n 0, 1), (1, .getfield 9, 3), (4, .ifnull 11, 3), (7, .aload_n 0, 1), (8, .getfield 9, 3), (11, .iconst 0, 1), (12, .putfield 18, 3), (15, .return_, 1)]
def t_X7_wanted : List (Nat × Instr × Nat) := [(0, .aload_n 0, 1), (1, .getfield 22, 3), (4, .tableswitch 147 3 32 #[145, 145, 143, 143, 143, 143, 143, 143, 143, 143, 147, 145, 147, 145, 147, 145, 145, 145, 145, 143, 145, 145, 145, 143, 145, 147, 136, 147, 145, 145], 136), (140, .aload_n 0, 1), (141, .getfield 25, 3), (144, .iconst 1, 1), (145, .iadd, 1), (146, .ireturn, 1), (147, .iconst 2, 1), (148, .ireturn, 1), (149, .iconst 1, 1), (150, .ireturn, 1), (151, .iconst 0, 1), (152, .ireturn, 1)]
def t_X7_kindsAbove : List (Nat × Instr × Nat) := [(0, .aload_n 0, 1), (1, .getfield 22, 3), (4, .tableswitch 110 6 27 #[104, 104, 104, 104, 104, 104, 110, 110, 110, 110, 110, 110, 110, 108, 106, 110, 110, 106, 110, 106, 108, 108], 104), (108, .iconst 2, 1), (109, .ireturn, 1), (110, .iconst 4, 1), (111, .ireturn, 1), (112, .iconst 5, 1), (113, .ireturn, 1), (114, .bipush 15, 2), (116, .ireturn, 1)]
def t_X7_kindsBelow : List (Nat × Instr × Nat) := [(0, .aload_n 0, 1), (1, .getfield 22, 3), (4, .tableswitch 104 6 26 #[100, 100, 100, 100, 100, 100, 104, 104, 104, 104, 104, 104, 104, 104, 104, 104, 102, 104, 104, 104, 102], 100), (104, .iconst 2, 1), (105, .ireturn, 1), (106, .iconst 4, 1), (107, .ireturn, 1), (108, .bipush 15, 2), (110, .ireturn, 1)]
def t_X7_isOperation : List (Nat × Instr × Nat) := [(0, .aload_n 0, 1), (1, .getfield 22, 3), (4, .ifCond .lt 16, 3), (7, .aload_n 0, 1), (8, .getfield 22, 3), (11, .bipush 34, 2), (13, .if_icmp .gt 7, 3), (16, .iconst 1, 1), (17, .goto 4, 3), (20, .iconst 0, 1), (21, .ireturn, 1)]
def t_X7_isInRange : List (Nat × Instr × Nat) := [(0, .aload_n 0, 1), (1, .getfield 28, 3), (4, .aload_n 0, 1), (5, .getfield 22, 3), (8, .iconst 1, 1), (9, .if_icmp .ne 8, 3), (12, .ldc 31, 2), (14, .goto 4, 3), (17, .iconst 0, 1), (18, .if_icmp .lt 32, 3), (21, .aload_n 0, 1), (22, .getfield 28, 3), (25, .aload_n 0, 1), (26, .invokevirtual 32, 3), (29, .if_icmp .gt 21, 3), (32, .aload_n 0, 1), (33, .getfield 25, 3), (36, .ifCond .lt 14, 3), (39, .aload_n 0, 1), (40, .getfield 25, 3), (43, .aload_n 0, 1), (44, .invokevirtual 36, 3), (47, .if_icmp .le 5, 3), (50, .iconst 0, 1), (51, .ireturn, 1), (52, .aload_n 0, 1), (53, .getfield 22, 3), (56, .bipush 27, 2), (58, .if_icmp .ne 17, 3), (61, .aload_n 0, 1), (62, .getfield 28, 3), (65, .iconst 2, 1), (66, .if_icmp .eq 7, 3), (69, .iconst 1, 1), (70, .goto 4, 3), (73, .iconst 0, 1), (74, .ireturn, 1), (75, .aload_n 0, 1), (76, .getfield 22, 3), (79, .bipush 34, 2), (81, .if_icmp .ne 17, 3), (84, .aload_n 0, 1), (85, .getfield 28, 3), (88, .aload_n 0, 1), (89, .getfield 25, 3), (92, .iadd, 1), (93, .bipush 16, 2), (95, .if_icmp .ge 7, 3), (98, .iconst 1, 1), (99, .goto 4, 3), (102, .iconst 0, 1), (103, .ireturn, 1)]
def t_X7_goesToLabel : List (Nat × Instr × Nat) := [(0, .aload_n 0, 1), (1, .getfield 22, 3), (4, .bipush 13, 2), (6, .if_icmp .eq 21, 3), (9, .aload_n 0, 1), (10, .getfield 22, 3), (13, .bipush 14, 2), (15, .if_icmp .eq 12, 3), (18, .aload_n 0, 1), (19, .getfield 22, 3), (22, .bipush 28, 2), (24, .if_icmp .ne 7, 3), (27, .iconst 1, 1), (28, .goto 4, 3), (31, .iconst 0, 1), (32, .ireturn, 1)]
def t_X7_mostOfA : List (Nat × Instr × Nat) := [(0, .aload_n 0, 1), (1, .getfield 22, 3), (4, .tableswitch 170 1 34 #[152, 170, 170, 170, 170, 170, 170, 170, 170, 170, 170, 170, 164, 164, 155, 155, 158, 158, 170, 170, 161, 161, 161, 161, 170, 170, 168, 164, 161, 170, 170, 170, 164, 155], 152), (156, .ldc 39, 2), (158, .ireturn, 1), (159, .bipush 15, 2), (161, .ireturn, 1), (162, .bipush 15, 2), (164, .ireturn, 1), (165, .bipush 63, 2), (167, .ireturn, 1), (168, .sipush 199, 3), (171, .ireturn, 1), (172, .iconst 3, 1), (173, .ireturn, 1), (174, .iconst 0, 1), (175, .ireturn, 1)]
def t_X7_mostOfB : List (Nat × Instr × Nat) := [(0, .aload_n 0, 1), (1, .getfield 22, 3), (4, .lookupswitch 34 #[(29, 28), (34, 31)], 28), (32, .bipush 8, 2), (34, .ireturn, 1), (35, .bipush 15, 2), (37, .ireturn, 1), (38, .iconst 0, 1), (39, .ireturn, 1)]
def t_X8_init : List (Nat × Instr × Nat) := [(0, .aload_n 0, 1), (1, .invokespecial 3, 3), (4, .aload_n 0, 1), (5, .new 9, 3), (8, .dup, 1), (9, .invokespecial 11, 3), (12, .putfield 12, 3), (15, .aload_n 0, 1), (16, .new 16, 3), (19, .dup, 1), (20, .invokespecial 18, 3), (23, .putfield 19, 3), (26, .aload_n 0, 1), (27, .new 23, 3), (30, .dup, 1), (31, .iload_n 1, 1), (32, .bipush 8, 2), (34, .sipush 200, 3), (37, .invokestatic 25, 3), (40, .iload_n 2, 1), (41, .bipush 16, 2), (43, .sipush 4000, 3), (46, .invokestatic 25, 3), (49, .aload_n 0, 1), (50, .getfield 19, 3), (53, .invokespecial 29, 3), (56, .putfield 32, 3), (59, .aload_n 0, 1), (60, .new 36, 3), (63, .dup, 1), (64, .invokespecial 38, 3), (67, .putfield 39, 3), (70, .return_, 1)]
def t_X8_asm : List (Nat × Instr × Nat) := [(0, .aload_n 0, 1), (1, .getfield 12, 3), (4, .getfield 43, 3), (7, .sipush 2000, 3), (10, .if_icmp .lt 6, 3), (13, .bipush (-2), 2), (15, .ireturn, 1), (16, .aload_n 0, 1), (17, .invokevirtual 47, 3), (20, .aload_n 0, 1), (21, .getfield 12, 3), (24, .iload_n 1, 1), (25, .iload_n 2, 1), (26, .iload_n 3, 1), (27, .invokevirtual 50, 3), (30, .aload_n 0, 1), (31, .getfield 12, 3), (34, .getfield 43, 3), (37, .ireturn, 1)]
def t_X8_wipe : List (Nat × Instr × Nat) := [(0, .aload_n 0, 1), (1, .invokevirtual 47, 3), (4, .aload_n 0, 1), (5, .getfield 12, 3), (8, .getfield 43, 3), (11, .istore_n 1, 1), (12, .aload_n 0, 1), (13, .getfield 12, 3), (16, .iconst 0, 1), (17, .putfield 43, 3), (20, .iload_n 1, 1), (21, .ireturn, 1)]
def t_X8_link : List (Nat × Instr × Nat) := [(0, .aload_n 0, 1), (1, .getfield 12, 3), (4, .invokevirtual 54, 3), (7, .istore_n 1, 1), (8, .iload_n 1, 1), (9, .iconst (-1), 1), (10, .if_icmp .eq 12, 3), (13, .aload_n 0, 1), (14, .invokevirtual 47, 3), (17, .bipush (-10), 2), (19, .iload_n 1, 1), (20, .isub, 1), (21, .ireturn, 1), (22, .aload_n 0, 1), (23, .invokevirtual 58, 3), (26, .aload_n 0, 1), (27, .iconst 1, 1), (28, .putfield 61, 3), (31, .iconst 0, 1), (32, .ireturn, 1)]
def t_X8_fault : List (Nat × Instr × Nat) := [(0, .aload_n 0, 1), (1, .getfield 12, 3), (4, .getfield 65, 3), (7, .ireturn, 1)]
def t_X8_step : List (Nat × Instr × Nat) := [(0, .aload_n 0, 1), (1, .getfield 61, 3), (4, .ifCond .ne 5, 3), (7, .iconst (-1), 1), (8, .ireturn, 1), (9, .aload_n 0, 1), (10, .getfield 68, 3), (13, .ifCond .ne 7, 3), (16, .aload_n 0, 1), (17, .invokevirtual 71, 3), (20, .aload_n 0, 1), (21, .getfield 68, 3), (24, .ireturn, 1)]
def t_X8_run : List (Nat × Instr × Nat) := [(0, .aload_n 0, 1), (1, .getfield 61, 3), (4, .ifCond .eq 14, 3), (7, .iload_n 1, 1), (8, .ifCond .lt 10, 3), (11, .iload_n 1, 1), (12, .sipush 20000, 3), (15, .if_icmp .le 5, 3), (18, .iconst (-1), 1), (19, .ireturn, 1), (20, .iconst 0, 1), (21, .istore_n 2, 1), (22, .iload_n 2, 1), (23, .iload_n 1, 1), (24, .if_icmp .ge 20, 3), (27, .aload_n 0, 1), (28, .getfield 68, 3), (31, .ifCond .ne 13, 3), (34, .aload_n 0, 1), (35, .invokevirtual 71, 3), (38, .iinc 2 1, 3), (41, .goto (-19), 3), (44, .aload_n 0, 1), (45, .getfield 68, 3), (48, .ireturn, 1)]
def t_X8_restart : List (Nat × Instr × Nat) := [(0, .aload_n 0, 1), (1, .getfield 61, 3), (4, .ifCond .ne 5, 3), (7, .iconst (-1), 1), (8, .ireturn, 1), (9, .aload_n 0, 1), (10, .getfield 74, 3), (13, .istore_n 1, 1), (14, .aload_n 0, 1), (15, .invokevirtual 58, 3), (18, .iload_n 1, 1), (19, .ireturn, 1)]
def t_X8_collectMinor : List (Nat × Instr × Nat) := [(0, .aload_n 0, 1), (1, .getfield 61, 3), (4, .ifCond .eq 13, 3), (7, .aload_n 0, 1), (8, .getfield 32, 3), (11, .invokevirtual 77, 3), (14, .goto 4, 3), (17, .iconst (-1), 1), (18, .ireturn, 1)]
def t_X8_collectMajor : List (Nat × Instr × Nat) := [(0, .aload_n 0, 1), (1, .getfield 61, 3), (4, .ifCond .eq 13, 3), (7, .aload_n 0, 1), (8, .getfield 32, 3), (11, .invokevirtual 80, 3), (14, .goto 4, 3), (17, .iconst (-1), 1), (18, .ireturn, 1)]
def t_X8_many : List (Nat × Instr × Nat) := [(0, .iload_n 1, 1), (1, .ifCond .lt 9, 3), (4, .iload_n 1, 1), (5, .bipush 13, 2), (7, .if_icmp .le 5, 3), (10, .iconst (-1), 1), (11, .ireturn, 1), (12, .iload_n 1, 1), (13, .bipush 13, 2), (15, .if_icmp .ne 11, 3), (18, .aload_n 0, 1), (19, .getfield 12, 3), (22, .getfield 43, 3), (25, .ireturn, 1), (26, .aload_n 0, 1), (27, .getfield 61, 3), (30, .ifCond .eq 11, 3), (33, .aload_n 0, 1), (34, .iload_n 1, 1), (35, .invokevirtual 83, 3), (38, .goto 4, 3), (41, .iconst 0, 1), (42, .ireturn, 1)]
def t_X8_pile : List (Nat × Instr × Nat) := [(0, .iload_n 1, 1), (1, .ifCond .lt 14, 3), (4, .iload_n 1, 1), (5, .aload_n 0, 1), (6, .getfield 19, 3), (9, .getfield 87, 3), (12, .if_icmp .lt 5, 3), (15, .iconst (-1), 1), (16, .ireturn, 1), (17, .aload_n 0, 1), (18, .getfield 32, 3), (21, .aload_n 0, 1), (22, .getfield 19, 3), (25, .iload_n 1, 1), (26, .invokevirtual 90, 3), (29, .invokevirtual 94, 3), (32, .iload_n 2, 1), (33, .invokestatic 98, 3), (36, .ireturn, 1)]
def t_X8_local : List (Nat × Instr × Nat) := [(0, .aload_n 0, 1), (1, .getfield 61, 3), (4, .ifCond .ne 5, 3), (7, .iconst (-1), 1), (8, .ireturn, 1), (9, .iload_n 1, 1), (10, .bipush 16, 2), (12, .if_icmp .eq 19, 3), (15, .aload_n 0, 1), (16, .getfield 19, 3), (19, .getfield 102, 3), (22, .iload_n 1, 1), (23, .invokevirtual 106, 3), (26, .ifCond .ne 5, 3), (29, .iconst (-1), 1), (30, .ireturn, 1), (31, .aload_n 0, 1), (32, .getfield 32, 3), (35, .aload_n 0, 1), (36, .getfield 19, 3), (39, .getfield 102, 3), (42, .iload_n 1, 1), (43, .invokevirtual 112, 3), (46, .invokevirtual 94, 3), (49, .iload_n 2, 1), (50, .invokestatic 98, 3), (53, .ireturn, 1)]
def t_X8_object : List (Nat × Instr × Nat) := [(0, .iload_n 2, 1), (1, .ifCond .lt 24, 3), (4, .iload_n 2, 1), (5, .iconst 4, 1), (6, .if_icmp .gt 19, 3), (9, .iload_n 1, 1), (10, .iconst 1, 1), (11, .if_icmp .lt 14, 3), (14, .iload_n 1, 1), (15, .aload_n 0, 1), (16, .getfield 32, 3), (19, .getfield 115, 3), (22, .if_icmp .le 5, 3), (25, .iconst (-1), 1), (26, .ireturn, 1), (27, .aload_n 0, 1), (28, .getfield 32, 3), (31, .iload_n 1, 1), (32, .invokevirtual 118, 3), (35, .astore_n 3, 1), (36, .aload_n 3, 1), (37, .ifnonnull 13, 3), (40, .iload_n 2, 1), (41, .ifCond .ne 7, 3), (44, .iconst 2, 1), (45, .goto 4, 3), (48, .iconst (-1), 1), (49, .ireturn, 1), (50, .iload_n 2, 1), (51, .tableswitch 60 0 3 #[29, 42, 47, 52], 29), (80, .aload_n 3, 1), (81, .getfield 122, 3), (84, .ifCond .eq 7, 3), (87, .iconst 1, 1), (88, .goto 4, 3), (91, .iconst 0, 1), (92, .ireturn, 1), (93, .aload_n 3, 1), (94, .invokevirtual 127, 3), (97, .ireturn, 1), (98, .aload_n 3, 1), (99, .getfield 129, 3), (102, .ireturn, 1), (103, .aload_n 3, 1), (104, .getfield 131, 3), (107, .invokestatic 135, 3), (110, .ireturn, 1), (111, .aload_n 3, 1), (112, .getfield 139, 3), (115, .ireturn, 1)]
def t_X8_slot : List (Nat × Instr × Nat) := [(0, .aload_n 0, 1), (1, .getfield 32, 3), (4, .iload_n 1, 1), (5, .invokevirtual 118, 3), (8, .astore 4, 2), (10, .aload 4, 2), (12, .ifnull 16, 3), (15, .iload_n 2, 1), (16, .ifCond .lt 12, 3), (19, .iload_n 2, 1), (20, .aload 4, 2), (22, .getfield 129, 3), (25, .if_icmp .lt 5, 3), (28, .iconst (-1), 1), (29, .ireturn, 1), (30, .iload_n 3, 1), (31, .ifCond .ne 11, 3), (34, .aload 4, 2), (36, .getfield 142, 3), (39, .iload_n 2, 1), (40, .baload, 1), (41, .ireturn, 1), (42, .aload_n 0, 1), (43, .getfield 32, 3), (46, .aload 4, 2), (48, .getfield 146, 3), (51, .iload_n 2, 1), (52, .laload, 1), (53, .invokevirtual 94, 3), (56, .iload_n 3, 1), (57, .iconst 1, 1), (58, .isub, 1), (59, .invokestatic 98, 3), (62, .ireturn, 1)]
def t_X8_outSize : List (Nat × Instr × Nat) := [(0, .aload_n 0, 1), (1, .getfield 39, 3), (4, .getfield 150, 3), (7, .ireturn, 1)]
def t_X8_out : List (Nat × Instr × Nat) := [(0, .iload_n 1, 1), (1, .ifCond .lt 14, 3), (4, .iload_n 1, 1), (5, .aload_n 0, 1), (6, .getfield 39, 3), (9, .invokevirtual 151, 3), (12, .if_icmp .lt 5, 3), (15, .iconst (-1), 1), (16, .ireturn, 1), (17, .aload_n 0, 1), (18, .getfield 39, 3), (21, .getfield 154, 3), (24, .iload_n 1, 1), (25, .laload, 1), (26, .iload_n 2, 1), (27, .invokestatic 98, 3), (30, .ireturn, 1)]
def t_X8_count : List (Nat × Instr × Nat) := [(0, .iload_n 1, 1), (1, .tableswitch 147 0 11 #[63, 71, 79, 87, 95, 103, 111, 119, 124, 129, 134, 139], 63), (64, .aload_n 0, 1), (65, .getfield 32, 3), (68, .getfield 155, 3), (71, .ireturn, 1), (72, .aload_n 0, 1), (73, .getfield 32, 3), (76, .getfield 158, 3), (79, .ireturn, 1), (80, .aload_n 0, 1), (81, .getfield 32, 3), (84, .getfield 161, 3), (87, .ireturn, 1), (88, .aload_n 0, 1), (89, .getfield 32, 3), (92, .getfield 164, 3), (95, .ireturn, 1), (96, .aload_n 0, 1), (97, .getfield 32, 3), (100, .getfield 167, 3), (103, .ireturn, 1), (104, .aload_n 0, 1), (105, .getfield 32, 3), (108, .getfield 170, 3), (111, .ireturn, 1), (112, .aload_n 0, 1), (113, .getfield 32, 3), (116, .getfield 173, 3), (119, .ireturn, 1), (120, .aload_n 0, 1), (121, .getfield 176, 3), (124, .ireturn, 1), (125, .aload_n 0, 1), (126, .getfield 179, 3), (129, .ireturn, 1), (130, .aload_n 0, 1), (131, .getfield 74, 3), (134, .ireturn, 1), (135, .aload_n 0, 1), (136, .getfield 182, 3), (139, .ireturn, 1), (140, .aload_n 0, 1), (141, .getfield 19, 3), (144, .getfield 87, 3), (147, .ireturn, 1), (148, .aload_n 0, 1), (149, .getfield 19, 3), (152, .getfield 185, 3), (155, .ireturn, 1)]
def t_X8_unlink : List (Nat × Instr × Nat) := [(0, .aload_n 0, 1), (1, .getfield 61, 3), (4, .ifCond .eq 12, 3), (7, .aload_n 0, 1), (8, .invokevirtual 58, 3), (11, .aload_n 0, 1), (12, .iconst 0, 1), (13, .putfield 61, 3), (16, .return_, 1)]
def t_X8_beginAnew : List (Nat × Instr × Nat) := [(0, .aload_n 0, 1), (1, .getfield 19, 3), (4, .invokevirtual 188, 3), (7, .aload_n 0, 1), (8, .getfield 32, 3), (11, .invokevirtual 191, 3), (14, .aload_n 0, 1), (15, .getfield 39, 3), (18, .iconst 0, 1), (19, .putfield 150, 3), (22, .aload_n 0, 1), (23, .getfield 12, 3), (26, .invokevirtual 192, 3), (29, .aload_n 0, 1), (30, .iconst 0, 1), (31, .putfield 68, 3), (34, .aload_n 0, 1), (35, .iconst 0, 1), (36, .putfield 182, 3), (39, .aload_n 0, 1), (40, .iconst 0, 1), (41, .putfield 74, 3), (44, .aload_n 0, 1), (45, .iconst 0, 1), (46, .putfield 176, 3), (49, .aload_n 0, 1), (50, .iconst 0, 1), (51, .putfield 179, 3), (54, .return_, 1)]
def t_X8_advance : List (Nat × Instr × Nat) := [(0, .aload_n 0, 1), (1, .getfield 12, 3), (4, .aload_n 0, 1), (5, .getfield 182, 3), (8, .invokevirtual 195, 3), (11, .astore_n 1, 1), (12, .aload_n 0, 1), (13, .aload_n 0, 1), (14, .getfield 182, 3), (17, .iconst 1, 1), (18, .iadd, 1), (19, .putfield 199, 3), (22, .aload_n 0, 1), (23, .aload_n 1, 1), (24, .invokevirtual 202, 3), (27, .istore_n 2, 1), (28, .iload_n 2, 1), (29, .ifCond .ne 9, 3), (32, .aload_n 0, 1), (33, .aload_n 1, 1), (34, .invokevirtual 206, 3), (37, .istore_n 2, 1), (38, .iload_n 2, 1), (39, .ifCond .ne 9, 3), (42, .aload_n 0, 1), (43, .aload_n 1, 1), (44, .invokevirtual 209, 3), (47, .istore_n 2, 1), (48, .iload_n 2, 1), (49, .ifCond .eq 8, 3), (52, .iload_n 2, 1), (53, .iconst 1, 1), (54, .if_icmp .ne 13, 3), (57, .aload_n 0, 1), (58, .dup, 1), (59, .getfield 74, 3), (62, .iconst 1, 1), (63, .iadd, 1), (64, .putfield 74, 3), (67, .iload_n 2, 1), (68, .ifCond .ne 11, 3), (71, .aload_n 0, 1), (72, .aload_n 0, 1), (73, .getfield 199, 3), (76, .putfield 182, 3), (79, .aload_n 0, 1), (80, .iload_n 2, 1), (81, .putfield 68, 3), (84, .return_, 1)]
def t_X8_valuesEnd : List (Nat × Instr × Nat) := [(0, .aload_n 1, 1), (1, .invokevirtual 212, 3), (4, .istore_n 2, 1), (5, .aload_n 0, 1), (6, .getfield 19, 3), (9, .invokevirtual 217, 3), (12, .iload_n 2, 1), (13, .if_icmp .ge 5, 3), (16, .iconst 5, 1), (17, .ireturn, 1), (18, .iload_n 2, 1), (19, .ifCond .le 23, 3), (22, .aload_n 0, 1), (23, .getfield 19, 3), (26, .iconst 0, 1), (27, .invokevirtual 90, 3), (30, .aload_n 1, 1), (31, .invokevirtual 220, 3), (34, .invokestatic 223, 3), (37, .ifCond .ne 5, 3), (40, .iconst 3, 1), (41, .ireturn, 1), (42, .iload_n 2, 1), (43, .iconst 1, 1), (44, .if_icmp .le 23, 3), (47, .aload_n 0, 1), (48, .getfield 19, 3), (51, .iconst 1, 1), (52, .invokevirtual 90, 3), (55, .aload_n 1, 1), (56, .invokevirtual 227, 3), (59, .invokestatic 223, 3), (62, .ifCond .ne 5, 3), (65, .iconst 3, 1), (66, .ireturn, 1), (67, .iconst 0, 1), (68, .ireturn, 1)]
def t_X8_roomEnd : List (Nat × Instr × Nat) := [(0, .aload_n 1, 1), (1, .getfield 230, 3), (4, .bipush 19, 2), (6, .if_icmp .ne 21, 3), (9, .aload_n 0, 1), (10, .getfield 32, 3), (13, .iconst 3, 1), (14, .invokevirtual 233, 3), (17, .ifCond .eq 7, 3), (20, .iconst 0, 1), (21, .goto 5, 3), (24, .bipush 8, 2), (26, .ireturn, 1), (27, .aload_n 1, 1), (28, .getfield 230, 3), (31, .bipush 20, 2), (33, .if_icmp .eq 14, 3), (36, .aload_n 1, 1), (37, .getfield 230, 3), (40, .bipush 22, 2), (42, .if_icmp .eq 5, 3), (45, .iconst 0, 1), (46, .ireturn, 1), (47, .aload_n 0, 1), (48, .getfield 32, 3), (51, .aload_n 0, 1), (52, .getfield 19, 3), (55, .aload_n 1, 1), (56, .getfield 230, 3), (59, .bipush 22, 2), (61, .if_icmp .ne 7, 3), (64, .iconst 1, 1), (65, .goto 4, 3), (68, .iconst 0, 1), (69, .invokevirtual 90, 3), (72, .invokevirtual 236, 3), (75, .astore_n 2, 1), (76, .aload_n 2, 1), (77, .ifnonnull 5, 3), (80, .iconst 3, 1), (81, .ireturn, 1), (82, .aload_n 1, 1), (83, .getfield 230, 3), (86, .bipush 20, 2), (88, .if_icmp .ne 24, 3), (91, .aload_n 0, 1), (92, .getfield 32, 3), (95, .aload_n 2, 1), (96, .invokevirtual 127, 3), (99, .invokevirtual 233, 3), (102, .ifCond .eq 7, 3), (105, .iconst 0, 1), (106, .goto 5, 3), (109, .bipush 8, 2), (111, .ireturn, 1), (112, .aload_n 2, 1), (113, .aload_n 1, 1), (114, .getfield 240, 3), (117, .invokevirtual 243, 3), (120, .iconst (-1), 1), (121, .if_icmp .eq 5, 3), (124, .iconst 0, 1), (125, .ireturn, 1), (126, .aload_n 2, 1), (127, .getfield 129, 3), (130, .bipush 40, 2), (132, .if_icmp .lt 6, 3), (135, .bipush 10, 2), (137, .ireturn, 1), (138, .aload_n 0, 1), (139, .getfield 32, 3), (142, .aload_n 2, 1), (143, .invokevirtual 246, 3), (146, .ifCond .eq 7, 3), (149, .iconst 0, 1), (150, .goto 5, 3), (153, .bipush 8, 2), (155, .ireturn, 1)]
def t_X8_perform : List (Nat × Instr × Nat) := [(0, .aload_n 1, 1), (1, .getfield 230, 3), (4, .tableswitch 487 0 32 #[148, 150, 163, 169, 175, 188, 193, 193, 193, 193, 193, 193, 202, 236, 245, 271, 311, 320, 336, 392, 397, 402, 408, 417, 426, 462, 467, 472, 345, 481, 365, 382, 387], 148), (152, .iconst 1, 1), (153, .ireturn, 1), (154, .aload_n 0, 1), (155, .iconst 1, 1), (156, .aload_n 1, 1), (157, .getfield 240, 3), (160, .invokestatic 250, 3), (163, .invokevirtual 254, 3), (166, .ireturn, 1), (167, .aload_n 0, 1), (168, .lconst 0, 1), (169, .invokevirtual 254, 3), (172, .ireturn, 1), (173, .aload_n 0, 1), (174, .iconst 1, 1), (175, .invokevirtual 258, 3), (178, .ireturn, 1), (179, .aload_n 0, 1), (180, .aload_n 0, 1), (181, .getfield 19, 3), (184, .iconst 0, 1), (185, .invokevirtual 90, 3), (188, .invokevirtual 254, 3), (191, .ireturn, 1), (192, .aload_n 0, 1), (193, .invokevirtual 261, 3), (196, .ireturn, 1), (197, .aload_n 0, 1), (198, .aload_n 1, 1), (199, .getfield 230, 3), (202, .invokevirtual 264, 3), (205, .ireturn, 1), (206, .aload_n 0, 1), (207, .iconst 2, 1), (208, .aload_n 0, 1), (209, .getfield 19, 3), (212, .iconst 0, 1), (213, .invokevirtual 90, 3), (216, .aload_n 0, 1), (217, .getfield 19, 3), (220, .iconst 1, 1), (221, .invokevirtual 90, 3), (224, .lcmp, 1), (225, .ifCond .ne 7, 3), (228, .iconst 1, 1), (229, .goto 4, 3), (232, .iconst 0, 1), (233, .invokestatic 267, 3), (236, .invokevirtual 271, 3), (239, .ireturn, 1), (240, .aload_n 0, 1), (241, .aload_n 1, 1), (242, .getfield 240, 3), (245, .invokevirtual 275, 3), (248, .ireturn, 1), (249, .aload_n 0, 1), (250, .getfield 19, 3), (253, .invokevirtual 278, 3), (256, .invokestatic 282, 3), (259, .ifCond .eq 14, 3), (262, .aload_n 0, 1), (263, .aload_n 1, 1), (264, .getfield 240, 3), (267, .invokevirtual 275, 3), (270, .goto 4, 3), (273, .iconst 0, 1), (274, .ireturn, 1), (275, .aload_n 0, 1), (276, .getfield 19, 3), (279, .getfield 102, 3), (282, .aload_n 1, 1), (283, .getfield 240, 3), (286, .invokevirtual 106, 3), (289, .ifCond .eq 24, 3), (292, .aload_n 0, 1), (293, .aload_n 0, 1), (294, .getfield 19, 3), (297, .getfield 102, 3), (300, .aload_n 1, 1), (301, .getfield 240, 3), (304, .invokevirtual 112, 3), (307, .invokevirtual 254, 3), (310, .goto 4, 3), (313, .iconst 5, 1), (314, .ireturn, 1), (315, .aload_n 0, 1), (316, .aload_n 1, 1), (317, .getfield 240, 3), (320, .invokevirtual 286, 3), (323, .ireturn, 1), (324, .aload_n 0, 1), (325, .aload_n 0, 1), (326, .getfield 19, 3), (329, .aload_n 1, 1), (330, .getfield 240, 3), (333, .invokevirtual 289, 3), (336, .invokevirtual 254, 3), (339, .ireturn, 1), (340, .aload_n 0, 1), (341, .aload_n 1, 1), (342, .getfield 240, 3), (345, .invokevirtual 292, 3), (348, .ireturn, 1), (349, .aload_n 0, 1), (350, .iconst 3, 1), (351, .aload_n 0, 1), (352, .getfield 12, 3), (355, .aload_n 1, 1), (356, .getfield 240, 3), (359, .invokevirtual 295, 3), (362, .invokestatic 250, 3), (365, .invokevirtual 254, 3), (368, .ireturn, 1), (369, .aload_n 0, 1), (370, .aload_n 0, 1), (371, .getfield 19, 3), (374, .getfield 102, 3), (377, .bipush 16, 2), (379, .invokevirtual 112, 3), (382, .invokevirtual 254, 3), (385, .ireturn, 1), (386, .aload_n 0, 1), (387, .invokevirtual 298, 3), (390, .ireturn, 1), (391, .aload_n 0, 1), (392, .invokevirtual 301, 3), (395, .ireturn, 1), (396, .aload_n 0, 1), (397, .invokevirtual 304, 3), (400, .ireturn, 1), (401, .aload_n 0, 1), (402, .invokevirtual 307, 3), (405, .ireturn, 1), (406, .aload_n 0, 1), (407, .aload_n 1, 1), (408, .invokevirtual 310, 3), (411, .ireturn, 1), (412, .aload_n 0, 1), (413, .aload_n 1, 1), (414, .getfield 240, 3), (417, .invokevirtual 313, 3), (420, .ireturn, 1), (421, .aload_n 0, 1), (422, .aload_n 1, 1), (423, .getfield 240, 3), (426, .invokevirtual 316, 3), (429, .ireturn, 1), (430, .aload_n 0, 1), (431, .iconst 1, 1), (432, .aload_n 0, 1), (433, .aload_n 0, 1), (434, .getfield 19, 3), (437, .iconst 0, 1), (438, .invokevirtual 90, 3), (441, .invokevirtual 319, 3), (444, .aload_n 1, 1), (445, .getfield 240, 3), (448, .invokestatic 322, 3), (451, .ifnull 7, 3), (454, .iconst 1, 1), (455, .goto 4, 3), (458, .iconst 0, 1), (459, .invokestatic 267, 3), (462, .invokevirtual 271, 3), (465, .ireturn, 1), (466, .aload_n 0, 1), (467, .invokevirtual 326, 3), (470, .ireturn, 1), (471, .aload_n 0, 1), (472, .invokevirtual 328, 3), (475, .ireturn, 1), (476, .aload_n 0, 1), (477, .aload_n 1, 1), (478, .getfield 240, 3), (481, .invokevirtual 331, 3), (484, .ireturn, 1), (485, .aload_n 0, 1), (486, .aload_n 1, 1), (487, .invokevirtual 334, 3), (490, .ireturn, 1), (491, .iconst 0, 1), (492, .ireturn, 1)]
def t_X8_bring : List (Nat × Instr × Nat) := [(0, .aload_n 0, 1), (1, .getfield 19, 3), (4, .lload_n 1, 1), (5, .invokevirtual 337, 3), (8, .ifCond .eq 7, 3), (11, .iconst 0, 1), (12, .goto 4, 3), (15, .iconst 5, 1), (16, .ireturn, 1)]
def t_X8_exchange : List (Nat × Instr × Nat) := [(0, .aload_n 0, 1), (1, .getfield 19, 3), (4, .iload_n 1, 1), (5, .invokevirtual 340, 3), (8, .aload_n 0, 1), (9, .getfield 19, 3), (12, .lload_n 2, 1), (13, .invokevirtual 337, 3), (16, .pop, 1), (17, .iconst 0, 1), (18, .ireturn, 1)]
def t_X8_letGo : List (Nat × Instr × Nat) := [(0, .aload_n 0, 1), (1, .getfield 19, 3), (4, .iload_n 1, 1), (5, .invokevirtual 340, 3), (8, .iconst 0, 1), (9, .ireturn, 1)]
def t_X8_swap : List (Nat × Instr × Nat) := [(0, .aload_n 0, 1), (1, .getfield 19, 3), (4, .invokevirtual 278, 3), (7, .lstore_n 1, 1), (8, .aload_n 0, 1), (9, .getfield 19, 3), (12, .invokevirtual 278, 3), (15, .lstore_n 3, 1), (16, .aload_n 0, 1), (17, .getfield 19, 3), (20, .lload_n 1, 1), (21, .invokevirtual 337, 3), (24, .pop, 1), (25, .aload_n 0, 1), (26, .getfield 19, 3), (29, .lload_n 3, 1), (30, .invokevirtual 337, 3), (33, .pop, 1), (34, .iconst 0, 1), (35, .ireturn, 1)]
def t_X8_reckon : List (Nat × Instr × Nat) := [(0, .aload_n 0, 1), (1, .getfield 19, 3), (4, .iconst 1, 1), (5, .invokevirtual 90, 3), (8, .invokestatic 344, 3), (11, .istore_n 2, 1), (12, .aload_n 0, 1), (13, .getfield 19, 3), (16, .iconst 0, 1), (17, .invokevirtual 90, 3), (20, .invokestatic 344, 3), (23, .istore_n 3, 1), (24, .iload_n 3, 1), (25, .ifCond .ne 17, 3), (28, .iload_n 1, 1), (29, .bipush 9, 2), (31, .if_icmp .eq 9, 3), (34, .iload_n 1, 1), (35, .bipush 10, 2), (37, .if_icmp .ne 5, 3), (40, .iconst 4, 1), (41, .ireturn, 1), (42, .iload_n 1, 1), (43, .bipush 11, 2), (45, .if_icmp .ne 17, 3), (48, .iload_n 2, 1), (49, .iload_n 3, 1), (50, .if_icmp .ge 7, 3), (53, .iconst 1, 1), (54, .goto 4, 3), (57, .iconst 0, 1), (58, .i2l, 1), (59, .goto 11, 3), (62, .iload_n 1, 1), (63, .iload_n 2, 1), (64, .i2l, 1), (65, .iload_n 3, 1), (66, .i2l, 1), (67, .invokestatic 347, 3), (70, .lstore 4, 2), (72, .lload 4, 2), (74, .ldc2_w 351, 3), (77, .lcmp, 1), (78, .ifCond .lt 12, 3), (81, .lload 4, 2), (83, .ldc2_w 353, 3), (86, .lcmp, 1), (87, .ifCond .le 6, 3), (90, .bipush 6, 2), (92, .ireturn, 1), (93, .aload_n 0, 1), (94, .iconst 2, 1), (95, .iconst 1, 1), (96, .lload 4, 2), (98, .l2i, 1), (99, .invokestatic 250, 3), (102, .invokevirtual 271, 3), (105, .ireturn, 1)]
def t_X8_arithmetic : List (Nat × Instr × Nat) := [(0, .iload_n 0, 1), (1, .tableswitch 57 6 9 #[31, 35, 39, 43], 31), (32, .lload_n 1, 1), (33, .lload_n 3, 1), (34, .ladd, 1), (35, .lreturn, 1), (36, .lload_n 1, 1), (37, .lload_n 3, 1), (38, .lsub, 1), (39, .lreturn, 1), (40, .lload_n 1, 1), (41, .lload_n 3, 1), (42, .lmul, 1), (43, .lreturn, 1), (44, .lload_n 3, 1), (45, .lconst 0, 1), (46, .lcmp, 1), (47, .ifCond .ne 7, 3), (50, .lconst 0, 1), (51, .goto 6, 3), (54, .lload_n 1, 1), (55, .lload_n 3, 1), (56, .ldiv, 1), (57, .lreturn, 1), (58, .lload_n 3, 1), (59, .lconst 0, 1), (60, .lcmp, 1), (61, .ifCond .ne 7, 3), (64, .lconst 0, 1), (65, .goto 6, 3), (68, .lload_n 1, 1), (69, .lload_n 3, 1), (70, .lrem, 1), (71, .lreturn, 1)]
def t_X8_jump : List (Nat × Instr × Nat) := [(0, .aload_n 0, 1), (1, .aload_n 0, 1), (2, .getfield 12, 3), (5, .iload_n 1, 1), (6, .invokevirtual 295, 3), (9, .putfield 199, 3), (12, .iconst 0, 1), (13, .ireturn, 1)]
def t_X8_store : List (Nat × Instr × Nat) := [(0, .aload_n 0, 1), (1, .getfield 19, 3), (4, .getfield 102, 3), (7, .iload_n 1, 1), (8, .invokevirtual 106, 3), (11, .ifCond .ne 5, 3), (14, .iconst 5, 1), (15, .ireturn, 1), (16, .aload_n 0, 1), (17, .getfield 19, 3), (20, .getfield 102, 3), (23, .iload_n 1, 1), (24, .aload_n 0, 1), (25, .getfield 19, 3), (28, .invokevirtual 278, 3), (31, .invokevirtual 355, 3), (34, .iconst 0, 1), (35, .ireturn, 1)]
def t_X8_keep : List (Nat × Instr × Nat) := [(0, .aload_n 0, 1), (1, .getfield 19, 3), (4, .iload_n 1, 1), (5, .aload_n 0, 1), (6, .getfield 19, 3), (9, .invokevirtual 278, 3), (12, .invokevirtual 359, 3), (15, .iconst 0, 1), (16, .ireturn, 1)]
def t_X8_print : List (Nat × Instr × Nat) := [(0, .aload_n 0, 1), (1, .getfield 39, 3), (4, .aload_n 0, 1), (5, .getfield 32, 3), (8, .aload_n 0, 1), (9, .getfield 19, 3), (12, .invokevirtual 278, 3), (15, .invokevirtual 94, 3), (18, .invokevirtual 362, 3), (21, .iconst 0, 1), (22, .ireturn, 1)]
def t_X8_giveBack : List (Nat × Instr × Nat) := [(0, .aload_n 0, 1), (1, .getfield 19, 3), (4, .getfield 102, 3), (7, .getfield 365, 3), (10, .ifnonnull 5, 3), (13, .iconst 1, 1), (14, .ireturn, 1), (15, .aload_n 0, 1), (16, .aload_n 0, 1), (17, .getfield 19, 3), (20, .getfield 102, 3), (23, .getfield 368, 3), (26, .putfield 199, 3), (29, .aload_n 0, 1), (30, .getfield 19, 3), (33, .invokevirtual 371, 3), (36, .iconst 0, 1), (37, .ireturn, 1)]
def t_X8_makeNew : List (Nat × Instr × Nat) := [(0, .aload_n 0, 1), (1, .getfield 32, 3), (4, .iconst 3, 1), (5, .invokevirtual 374, 3), (8, .astore_n 1, 1), (9, .aload_n 1, 1), (10, .ifnonnull 6, 3), (13, .bipush 8, 2), (15, .ireturn, 1), (16, .aload_n 1, 1), (17, .aload_n 0, 1), (18, .getfield 32, 3), (21, .aload_n 0, 1), (22, .getfield 19, 3), (25, .iconst 0, 1), (26, .invokevirtual 90, 3), (29, .invokevirtual 236, 3), (32, .putfield 131, 3), (35, .aload_n 0, 1), (36, .iconst 1, 1), (37, .iconst 2, 1), (38, .aload_n 1, 1), (39, .getfield 377, 3), (42, .invokestatic 250, 3), (45, .invokevirtual 271, 3), (48, .ireturn, 1)]
def t_X8_makeCopy : List (Nat × Instr × Nat) := [(0, .aload_n 0, 1), (1, .getfield 32, 3), (4, .aload_n 0, 1), (5, .getfield 19, 3), (8, .iconst 0, 1), (9, .invokevirtual 90, 3), (12, .invokevirtual 236, 3), (15, .astore_n 1, 1), (16, .aload_n 1, 1), (17, .ifnonnull 5, 3), (20, .iconst 3, 1), (21, .ireturn, 1), (22, .aload_n 0, 1), (23, .getfield 32, 3), (26, .aload_n 1, 1), (27, .invokevirtual 127, 3), (30, .invokevirtual 374, 3), (33, .astore_n 2, 1), (34, .aload_n 2, 1), (35, .ifnonnull 6, 3), (38, .bipush 8, 2), (40, .ireturn, 1), (41, .aload_n 2, 1), (42, .aload_n 1, 1), (43, .invokevirtual 380, 3), (46, .aload_n 0, 1), (47, .iconst 1, 1), (48, .iconst 2, 1), (49, .aload_n 2, 1), (50, .getfield 377, 3), (53, .invokestatic 250, 3), (56, .invokevirtual 271, 3), (59, .ireturn, 1)]
def t_X8_get : List (Nat × Instr × Nat) := [(0, .aload_n 0, 1), (1, .getfield 19, 3), (4, .iconst 0, 1), (5, .invokevirtual 90, 3), (8, .lstore_n 2, 1), (9, .aload_n 0, 1), (10, .lload_n 2, 1), (11, .invokevirtual 319, 3), (14, .aload_n 1, 1), (15, .getfield 240, 3), (18, .invokestatic 322, 3), (21, .astore 4, 2), (23, .aload 4, 2), (25, .ifnonnull 5, 3), (28, .iconst 2, 1), (29, .ireturn, 1), (30, .aload_n 0, 1), (31, .aload_n 1, 1), (32, .lload_n 2, 1), (33, .invokevirtual 384, 3), (36, .aload_n 0, 1), (37, .iconst 1, 1), (38, .aload 4, 2), (40, .aload_n 1, 1), (41, .getfield 240, 3), (44, .invokevirtual 388, 3), (47, .invokevirtual 271, 3), (50, .ireturn, 1)]
def t_X8_set : List (Nat × Instr × Nat) := [(0, .aload_n 0, 1), (1, .getfield 32, 3), (4, .aload_n 0, 1), (5, .getfield 19, 3), (8, .iconst 1, 1), (9, .invokevirtual 90, 3), (12, .invokevirtual 236, 3), (15, .astore_n 2, 1), (16, .aload_n 2, 1), (17, .ifnonnull 5, 3), (20, .iconst 3, 1), (21, .ireturn, 1), (22, .aload_n 2, 1), (23, .iload_n 1, 1), (24, .invokevirtual 243, 3), (27, .istore_n 3, 1), (28, .iload_n 3, 1), (29, .iconst (-1), 1), (30, .if_icmp .ne 33, 3), (33, .aload_n 0, 1), (34, .getfield 32, 3), (37, .aload_n 2, 1), (38, .iload_n 1, 1), (39, .aload_n 0, 1), (40, .getfield 19, 3), (43, .iconst 0, 1), (44, .invokevirtual 90, 3), (47, .invokevirtual 391, 3), (50, .aload_n 2, 1), (51, .aload_n 0, 1), (52, .getfield 74, 3), (55, .iconst 1, 1), (56, .iadd, 1), (57, .putfield 139, 3), (60, .goto 17, 3), (63, .aload_n 2, 1), (64, .getfield 146, 3), (67, .iload_n 3, 1), (68, .aload_n 0, 1), (69, .getfield 19, 3), (72, .iconst 0, 1), (73, .invokevirtual 90, 3), (76, .lastore, 1), (77, .aload_n 0, 1), (78, .iconst 2, 1), (79, .invokevirtual 258, 3), (82, .ireturn, 1)]
def t_X8_drop : List (Nat × Instr × Nat) := [(0, .aload_n 0, 1), (1, .getfield 32, 3), (4, .aload_n 0, 1), (5, .getfield 19, 3), (8, .iconst 0, 1), (9, .invokevirtual 90, 3), (12, .invokevirtual 236, 3), (15, .astore_n 2, 1), (16, .aload_n 2, 1), (17, .ifnonnull 5, 3), (20, .iconst 3, 1), (21, .ireturn, 1), (22, .aload_n 2, 1), (23, .iload_n 1, 1), (24, .invokevirtual 243, 3), (27, .istore_n 3, 1), (28, .iload_n 3, 1), (29, .iconst (-1), 1), (30, .if_icmp .ne 5, 3), (33, .iconst 2, 1), (34, .ireturn, 1), (35, .aload_n 0, 1), (36, .getfield 32, 3), (39, .aload_n 2, 1), (40, .iload_n 3, 1), (41, .invokevirtual 395, 3), (44, .aload_n 2, 1), (45, .aload_n 0, 1), (46, .getfield 74, 3), (49, .iconst 1, 1), (50, .iadd, 1), (51, .putfield 139, 3), (54, .aload_n 0, 1), (55, .iconst 1, 1), (56, .invokevirtual 258, 3), (59, .ireturn, 1)]
def t_X8_parent : List (Nat × Instr × Nat) := [(0, .aload_n 0, 1), (1, .getfield 32, 3), (4, .aload_n 0, 1), (5, .getfield 19, 3), (8, .iconst 0, 1), (9, .invokevirtual 90, 3), (12, .invokevirtual 236, 3), (15, .astore_n 1, 1), (16, .aload_n 1, 1), (17, .ifnonnull 7, 3), (20, .iconst 3, 1), (21, .goto 15, 3), (24, .aload_n 0, 1), (25, .iconst 1, 1), (26, .aload_n 1, 1), (27, .getfield 131, 3), (30, .invokestatic 399, 3), (33, .invokevirtual 271, 3), (36, .ireturn, 1)]
def t_X8_adopt : List (Nat × Instr × Nat) := [(0, .aload_n 0, 1), (1, .getfield 32, 3), (4, .aload_n 0, 1), (5, .getfield 19, 3), (8, .iconst 1, 1), (9, .invokevirtual 90, 3), (12, .invokevirtual 236, 3), (15, .astore_n 1, 1), (16, .aload_n 0, 1), (17, .getfield 32, 3), (20, .aload_n 0, 1), (21, .getfield 19, 3), (24, .iconst 0, 1), (25, .invokevirtual 90, 3), (28, .invokevirtual 236, 3), (31, .astore_n 2, 1), (32, .aload_n 1, 1), (33, .ifnonnull 5, 3), (36, .iconst 3, 1), (37, .ireturn, 1), (38, .aload_n 2, 1), (39, .astore_n 3, 1), (40, .aload_n 3, 1), (41, .ifnull 19, 3), (44, .aload_n 3, 1), (45, .aload_n 1, 1), (46, .if_acmp .ne 6, 3), (49, .bipush 9, 2), (51, .ireturn, 1), (52, .aload_n 3, 1), (53, .getfield 131, 3), (56, .astore_n 3, 1), (57, .goto (-17), 3), (60, .aload_n 1, 1), (61, .getfield 131, 3), (64, .aload_n 2, 1), (65, .if_acmp .eq 18, 3), (68, .aload_n 1, 1), (69, .aload_n 2, 1), (70, .putfield 131, 3), (73, .aload_n 1, 1), (74, .aload_n 0, 1), (75, .getfield 74, 3), (78, .iconst 1, 1), (79, .iadd, 1), (80, .putfield 139, 3), (83, .aload_n 0, 1), (84, .iconst 2, 1), (85, .invokevirtual 258, 3), (88, .ireturn, 1)]
def t_X8_proto : List (Nat × Instr × Nat) := [(0, .aload_n 0, 1), (1, .getfield 19, 3), (4, .iload_n 1, 1), (5, .aload_n 0, 1), (6, .getfield 32, 3), (9, .aload_n 0, 1), (10, .getfield 19, 3), (13, .invokevirtual 278, 3), (16, .invokevirtual 236, 3), (19, .invokevirtual 403, 3), (22, .iconst 0, 1), (23, .ireturn, 1)]
def t_X8_send : List (Nat × Instr × Nat) := [(0, .aload_n 0, 1), (1, .getfield 19, 3), (4, .aload_n 1, 1), (5, .getfield 407, 3), (8, .invokevirtual 90, 3), (11, .lstore_n 2, 1), (12, .aload_n 0, 1), (13, .lload_n 2, 1), (14, .invokevirtual 319, 3), (17, .aload_n 1, 1), (18, .getfield 240, 3), (21, .invokestatic 322, 3), (24, .astore 4, 2), (26, .aload 4, 2), (28, .ifnonnull 5, 3), (31, .iconst 2, 1), (32, .ireturn, 1), (33, .aload 4, 2), (35, .aload_n 1, 1), (36, .getfield 240, 3), (39, .invokevirtual 388, 3), (42, .lstore 5, 2), (44, .lload 5, 2), (46, .invokestatic 410, 3), (49, .iconst 3, 1), (50, .if_icmp .ne 20, 3), (53, .aload_n 0, 1), (54, .lload_n 2, 1), (55, .lload 5, 2), (57, .invokestatic 344, 3), (60, .aload_n 1, 1), (61, .getfield 407, 3), (64, .invokevirtual 413, 3), (67, .goto 13, 3), (70, .aload_n 0, 1), (71, .lload 5, 2), (73, .aload_n 1, 1), (74, .getfield 407, 3), (77, .invokevirtual 417, 3), (80, .istore 7, 2), (82, .iload 7, 2), (84, .ifCond .ne 9, 3), (87, .aload_n 0, 1), (88, .aload_n 1, 1), (89, .lload_n 2, 1), (90, .invokevirtual 384, 3), (93, .iload 7, 2), (95, .ireturn, 1)]
def t_X8_call : List (Nat × Instr × Nat) := [(0, .aload_n 0, 1), (1, .getfield 12, 3), (4, .iload_n 3, 1), (5, .invokevirtual 195, 3), (8, .astore 5, 2), (10, .aload 5, 2), (12, .getfield 230, 3), (15, .bipush 34, 2), (17, .if_icmp .ne 13, 3), (20, .aload 5, 2), (22, .getfield 240, 3), (25, .iload 4, 2), (27, .if_icmp .eq 6, 3), (30, .bipush 7, 2), (32, .ireturn, 1), (33, .aload_n 0, 1), (34, .getfield 19, 3), (37, .getfield 185, 3), (40, .sipush 200, 3), (43, .if_icmp .lt 5, 3), (46, .iconst 5, 1), (47, .ireturn, 1), (48, .aload_n 0, 1), (49, .getfield 19, 3), (52, .lload_n 1, 1), (53, .iload 4, 2), (55, .aload 5, 2), (57, .getfield 240, 3), (60, .aload 5, 2), (62, .getfield 407, 3), (65, .iadd, 1), (66, .aload_n 0, 1), (67, .getfield 199, 3), (70, .invokevirtual 420, 3), (73, .aload_n 0, 1), (74, .iload_n 3, 1), (75, .iconst 1, 1), (76, .iadd, 1), (77, .putfield 199, 3), (80, .iconst 0, 1), (81, .ireturn, 1)]
def t_X8_answer : List (Nat × Instr × Nat) := [(0, .iload_n 3, 1), (1, .ifCond .ne 12, 3), (4, .aload_n 0, 1), (5, .iconst 1, 1), (6, .lload_n 1, 1), (7, .invokevirtual 271, 3), (10, .goto 5, 3), (13, .bipush 7, 2), (15, .ireturn, 1)]
def t_X8_chainOf : List (Nat × Instr × Nat) := [(0, .aload_n 0, 1), (1, .getfield 32, 3), (4, .lload_n 1, 1), (5, .invokevirtual 236, 3), (8, .astore_n 3, 1), (9, .aload_n 3, 1), (10, .ifnonnull 17, 3), (13, .aload_n 0, 1), (14, .getfield 19, 3), (17, .lload_n 1, 1), (18, .invokestatic 410, 3), (21, .invokevirtual 424, 3), (24, .goto 4, 3), (27, .aload_n 3, 1), (28, .areturn, 1)]
def t_X8_finder : List (Nat × Instr × Nat) := [(0, .aload_n 0, 1), (1, .astore_n 2, 1), (2, .aload_n 2, 1), (3, .ifnull 22, 3), (6, .aload_n 2, 1), (7, .iload_n 1, 1), (8, .invokevirtual 243, 3), (11, .iconst (-1), 1), (12, .if_icmp .eq 5, 3), (15, .aload_n 2, 1), (16, .areturn, 1), (17, .aload_n 2, 1), (18, .getfield 131, 3), (21, .astore_n 2, 1), (22, .goto (-20), 3), (25, .aconst_null, 1), (26, .areturn, 1)]
def t_X8_remember : List (Nat × Instr × Nat) := [(0, .aload_n 0, 1), (1, .getfield 32, 3), (4, .lload_n 2, 1), (5, .invokevirtual 236, 3), (8, .astore 4, 2), (10, .aload 4, 2), (12, .ifnonnull 17, 3), (15, .aload_n 0, 1), (16, .getfield 19, 3), (19, .lload_n 2, 1), (20, .invokestatic 410, 3), (23, .invokevirtual 424, 3), (26, .goto 8, 3), (29, .aload 4, 2), (31, .getfield 131, 3), (34, .astore 5, 2), (36, .aload_n 1, 1), (37, .invokevirtual 427, 3), (40, .astore 6, 2), (42, .aload 6, 2), (44, .lload_n 2, 1), (45, .invokestatic 410, 3), (48, .aload 5, 2), (50, .aload 4, 2), (52, .invokevirtual 431, 3), (55, .ifCond .eq 26, 3), (58, .aload 5, 2), (60, .aload 6, 2), (62, .getfield 437, 3), (65, .invokestatic 440, 3), (68, .ifCond .eq 13, 3), (71, .aload_n 0, 1), (72, .dup, 1), (73, .getfield 176, 3), (76, .iconst 1, 1), (77, .iadd, 1), (78, .putfield 176, 3), (81, .aload 6, 2), (83, .aload_n 0, 1), (84, .getfield 74, 3), (87, .iconst 1, 1), (88, .iadd, 1), (89, .lload_n 2, 1), (90, .invokestatic 410, 3), (93, .aload 5, 2), (95, .aload 4, 2), (97, .invokevirtual 444, 3), (100, .aload_n 0, 1), (101, .dup, 1), (102, .getfield 179, 3), (105, .iconst 1, 1), (106, .iadd, 1), (107, .putfield 179, 3), (110, .return_, 1)]
def t_X8_isUnchanged : List (Nat × Instr × Nat) := [(0, .aload_n 0, 1), (1, .astore_n 2, 1), (2, .aload_n 2, 1), (3, .ifnull 21, 3), (6, .aload_n 2, 1), (7, .getfield 139, 3), (10, .iload_n 1, 1), (11, .if_icmp .le 5, 3), (14, .iconst 0, 1), (15, .ireturn, 1), (16, .aload_n 2, 1), (17, .getfield 131, 3), (20, .astore_n 2, 1), (21, .goto (-19), 3), (24, .iconst 1, 1), (25, .ireturn, 1)]
def t_X8_nearest : List (Nat × Instr × Nat) := [(0, .iload_n 1, 1), (1, .iload_n 2, 1), (2, .iload_n 0, 1), (3, .invokestatic 448, 3), (6, .invokestatic 454, 3), (9, .ireturn, 1)]
def t_X8_serialOf : List (Nat × Instr × Nat) := [(0, .aload_n 0, 1), (1, .ifnonnull 7, 3), (4, .iconst 0, 1), (5, .goto 7, 3), (8, .aload_n 0, 1), (9, .getfield 457, 3), (12, .ireturn, 1)]
def t_X8_pack : List (Nat × Instr × Nat) := [(0, .iload_n 0, 1), (1, .i2l, 1), (2, .bipush 32, 2), (4, .lshl, 1), (5, .iload_n 1, 1), (6, .i2l, 1), (7, .ldc2_w 460, 3), (10, .land, 1), (11, .lor, 1), (12, .lreturn, 1)]
def t_X8_valueOfThing : List (Nat × Instr × Nat) := [(0, .aload_n 0, 1), (1, .ifnonnull 7, 3), (4, .lconst 0, 1), (5, .goto 11, 3), (8, .iconst 2, 1), (9, .aload_n 0, 1), (10, .getfield 377, 3), (13, .invokestatic 250, 3), (16, .lreturn, 1)]
def t_X8_truth : List (Nat × Instr × Nat) := [(0, .iconst 1, 1), (1, .iload_n 0, 1), (2, .ifCond .eq 7, 3), (5, .iconst 1, 1), (6, .goto 4, 3), (9, .iconst 0, 1), (10, .invokestatic 250, 3), (13, .lreturn, 1)]
def t_X8_kindOf : List (Nat × Instr × Nat) := [(0, .lload_n 0, 1), (1, .bipush 32, 2), (3, .lushr, 1), (4, .l2i, 1), (5, .ireturn, 1)]
def t_X8_numberOf : List (Nat × Instr × Nat) := [(0, .lload_n 0, 1), (1, .l2i, 1), (2, .ireturn, 1)]
def t_X8_isFalse : List (Nat × Instr × Nat) := [(0, .lload_n 0, 1), (1, .lconst 0, 1), (2, .lcmp, 1), (3, .ifCond .eq 13, 3), (6, .lload_n 0, 1), (7, .iconst 1, 1), (8, .iconst 0, 1), (9, .invokestatic 250, 3), (12, .lcmp, 1), (13, .ifCond .ne 7, 3), (16, .iconst 1, 1), (17, .goto 4, 3), (20, .iconst 0, 1), (21, .ireturn, 1)]
def t_X8_isAmong : List (Nat × Instr × Nat) := [(0, .iload_n 2, 1), (1, .lload_n 0, 1), (2, .invokestatic 410, 3), (5, .ishr, 1), (6, .iconst 1, 1), (7, .iand, 1), (8, .ifCond .eq 7, 3), (11, .iconst 1, 1), (12, .goto 4, 3), (15, .iconst 0, 1), (16, .ireturn, 1)]
def t_X8_told : List (Nat × Instr × Nat) := [(0, .iload_n 2, 1), (1, .lookupswitch 37 #[(0, 27), (1, 32)], 27), (28, .lload_n 0, 1), (29, .invokestatic 410, 3), (32, .ireturn, 1), (33, .lload_n 0, 1), (34, .invokestatic 344, 3), (37, .ireturn, 1), (38, .iconst (-1), 1), (39, .ireturn, 1)]
def t_X9_init : List (Nat × Instr × Nat) := [(0, .aload_n 0, 1), (1, .invokespecial 1, 3), (4, .aload_n 0, 1), (5, .sipush 2000, 3), (8, .newarray .int, 2), (10, .putfield 7, 3), (13, .aload_n 0, 1), (14, .sipush 2000, 3), (17, .newarray .int, 2), (19, .putfield 13, 3), (22, .aload_n 0, 1), (23, .sipush 2000, 3), (26, .newarray .int, 2), (28, .putfield 16, 3), (31, .aload_n 0, 1), (32, .sipush 200, 3), (35, .newarray .int, 2), (37, .putfield 19, 3), (40, .aload_n 0, 1), (41, .sipush 1000, 3), (44, .newarray .int, 2), (46, .putfield 22, 3), (49, .aload_n 0, 1), (50, .sipush 1000, 3), (53, .newarray .int, 2), (55, .putfield 25, 3), (58, .aload_n 0, 1), (59, .sipush 200, 3), (62, .newarray .int, 2), (64, .putfield 28, 3), (67, .aload_n 0, 1), (68, .sipush 200, 3), (71, .newarray .int, 2), (73, .putfield 31, 3), (76, .aload_n 0, 1), (77, .sipush 200, 3), (80, .newarray .int, 2), (82, .putfield 34, 3), (85, .aload_n 0, 1), (86, .sipush 200, 3), (89, .newarray .int, 2), (91, .putfield 37, 3), (94, .aload_n 0, 1), (95, .sipush 200, 3), (98, .newarray .int, 2), (100, .putfield 40, 3), (103, .aload_n 0, 1), (104, .sipush 3200, 3), (107, .newarray .int, 2), (109, .putfield 43, 3), (112, .aload_n 0, 1), (113, .sipush 3200, 3), (116, .newarray .int, 2), (118, .putfield 46, 3), (121, .aload_n 0, 1), (122, .bipush 16, 2), (124, .newarray .int, 2), (126, .putfield 49, 3), (129, .aload_n 0, 1), (130, .bipush 16, 2), (132, .newarray .int, 2), (134, .putfield 52, 3), (137, .aload_n 0, 1), (138, .iconst 4, 1), (139, .newarray .int, 2), (141, .putfield 55, 3), (144, .aload_n 0, 1), (145, .sipush 1000, 3), (148, .newarray .int, 2), (150, .putfield 58, 3), (153, .aload_n 0, 1), (154, .sipush 1000, 3), (157, .newarray .int, 2), (159, .putfield 61, 3), (162, .aload_n 0, 1), (163, .sipush 1500, 3), (166, .newarray .int, 2), (168, .putfield 64, 3), (171, .aload_n 0, 1), (172, .sipush 1500, 3), (175, .newarray .boolean, 2), (177, .putfield 67, 3), (180, .aload_n 0, 1), (181, .sipush 1500, 3), (184, .newarray .int, 2), (186, .putfield 71, 3), (189, .aload_n 0, 1), (190, .sipush 1500, 3), (193, .newarray .int, 2), (195, .putfield 74, 3), (198, .aload_n 0, 1), (199, .sipush 1500, 3), (202, .newarray .int, 2), (204, .putfield 77, 3), (207, .aload_n 0, 1), (208, .ldc 80, 2), (210, .newarray .int, 2), (212, .putfield 81, 3), (215, .aload_n 0, 1), (216, .ldc 80, 2), (218, .newarray .int, 2), (220, .putfield 84, 3), (223, .aload_n 0, 1), (224, .ldc 80, 2), (226, .newarray .int, 2), (228, .putfield 87, 3), (231, .aload_n 0, 1), (232, .sipush 1500, 3), (235, .newarray .boolean, 2), (237, .putfield 90, 3), (240, .aload_n 0, 1), (241, .sipush 1500, 3), (244, .newarray .int, 2), (246, .putfield 93, 3), (249, .aload_n 0, 1), (250, .sipush 2000, 3), (253, .newarray .int, 2), (255, .putfield 96, 3), (258, .aload_n 0, 1), (259, .sipush 2000, 3), (262, .newarray .int, 2), (264, .putfield 99, 3), (267, .aload_n 0, 1), (268, .sipush 2000, 3), (271, .newarray .int, 2), (273, .putfield 102, 3), (276, .aload_n 0, 1), (277, .ldc 105, 2), (279, .newarray .int, 2), (281, .putfield 106, 3), (284, .aload_n 0, 1), (285, .sipush 2000, 3), (288, .newarray .int, 2), (290, .putfield 109, 3), (293, .aload_n 0, 1), (294, .iload_n 1, 1), (295, .bipush 8, 2), (297, .if_icmp .ge 8, 3), (300, .bipush 8, 2), (302, .goto 17, 3), (305, .iload_n 1, 1), (306, .sipush 200, 3), (309, .if_icmp .le 9, 3), (312, .sipush 200, 3), (315, .goto 4, 3), (318, .iload_n 1, 1), (319, .putfield 112, 3), (322, .aload_n 0, 1), (323, .iload_n 2, 1), (324, .bipush 16, 2), (326, .if_icmp .ge 8, 3), (329, .bipush 16, 2), (331, .goto 17, 3), (334, .iload_n 2, 1), (335, .sipush 4000, 3), (338, .if_icmp .le 9, 3), (341, .sipush 4000, 3), (344, .goto 4, 3), (347, .iload_n 2, 1), (348, .putfield 116, 3), (351, .aload_n 0, 1), (352, .invokevirtual 119, 3), (355, .return_, 1)]
def t_X9_clear : List (Nat × Instr × Nat) := [(0, .aload_n 0, 1), (1, .iconst 0, 1), (2, .putfield 122, 3), (5, .aload_n 0, 1), (6, .iconst 0, 1), (7, .putfield 125, 3), (10, .aload_n 0, 1), (11, .iconst 0, 1), (12, .putfield 128, 3), (15, .aload_n 0, 1), (16, .iconst 0, 1), (17, .putfield 131, 3), (20, .aload_n 0, 1), (21, .iconst 1, 1), (22, .putfield 134, 3), (25, .aload_n 0, 1), (26, .getfield 28, 3), (29, .iconst 0, 1), (30, .iconst 0, 1), (31, .iastore, 1), (32, .aload_n 0, 1), (33, .getfield 34, 3), (36, .iconst 0, 1), (37, .iconst 0, 1), (38, .iastore, 1), (39, .aload_n 0, 1), (40, .getfield 37, 3), (43, .iconst 0, 1), (44, .iconst 0, 1), (45, .iastore, 1), (46, .aload_n 0, 1), (47, .getfield 40, 3), (50, .iconst 0, 1), (51, .bipush 16, 2), (53, .iastore, 1), (54, .iconst 0, 1), (55, .istore_n 1, 1), (56, .iload_n 1, 1), (57, .bipush 16, 2), (59, .if_icmp .ge 37, 3), (62, .aload_n 0, 1), (63, .getfield 43, 3), (66, .iload_n 1, 1), (67, .iconst 0, 1), (68, .iastore, 1), (69, .aload_n 0, 1), (70, .getfield 46, 3), (73, .iload_n 1, 1), (74, .iconst 0, 1), (75, .iastore, 1), (76, .aload_n 0, 1), (77, .getfield 49, 3), (80, .iload_n 1, 1), (81, .iconst 0, 1), (82, .iastore, 1), (83, .aload_n 0, 1), (84, .getfield 52, 3), (87, .iload_n 1, 1), (88, .iconst 0, 1), (89, .iastore, 1), (90, .iinc 1 1, 3), (93, .goto (-37), 3), (96, .iconst 0, 1), (97, .istore_n 1, 1), (98, .iload_n 1, 1), (99, .iconst 4, 1), (100, .if_icmp .ge 16, 3), (103, .aload_n 0, 1), (104, .getfield 55, 3), (107, .iload_n 1, 1), (108, .iconst (-1), 1), (109, .iastore, 1), (110, .iinc 1 1, 3), (113, .goto (-15), 3), (116, .aload_n 0, 1), (117, .iconst 0, 1), (118, .putfield 137, 3), (121, .iconst 0, 1), (122, .istore_n 1, 1), (123, .iload_n 1, 1), (124, .sipush 1500, 3), (127, .if_icmp .ge 16, 3), (130, .aload_n 0, 1), (131, .getfield 64, 3), (134, .iload_n 1, 1), (135, .iconst 0, 1), (136, .iastore, 1), (137, .iinc 1 1, 3), (140, .goto (-17), 3), (143, .aload_n 0, 1), (144, .iconst 0, 1), (145, .putfield 140, 3), (148, .aload_n 0, 1), (149, .iconst 0, 1), (150, .putfield 143, 3), (153, .aload_n 0, 1), (154, .iconst 0, 1), (155, .putfield 146, 3), (158, .aload_n 0, 1), (159, .iconst 0, 1), (160, .putfield 149, 3), (163, .aload_n 0, 1), (164, .iconst 0, 1), (165, .putfield 152, 3), (168, .aload_n 0, 1), (169, .iconst 0, 1), (170, .putfield 155, 3), (173, .iconst 0, 1), (174, .istore_n 1, 1), (175, .iload_n 1, 1), (176, .sipush 2000, 3), (179, .if_icmp .ge 16, 3), (182, .aload_n 0, 1), (183, .getfield 96, 3), (186, .iload_n 1, 1), (187, .iconst (-1), 1), (188, .iastore, 1), (189, .iinc 1 1, 3), (192, .goto (-17), 3), (195, .aload_n 0, 1), (196, .iconst 0, 1), (197, .putfield 158, 3), (200, .aload_n 0, 1), (201, .iconst 0, 1), (202, .putfield 161, 3), (205, .return_, 1)]
def t_X9_asm : List (Nat × Instr × Nat) := [(0, .aload_n 0, 1), (1, .getfield 164, 3), (4, .sipush 2000, 3), (7, .if_icmp .ne 6, 3), (10, .bipush (-2), 2), (12, .ireturn, 1), (13, .aload_n 0, 1), (14, .getfield 7, 3), (17, .aload_n 0, 1), (18, .getfield 164, 3), (21, .iload_n 1, 1), (22, .iastore, 1), (23, .aload_n 0, 1), (24, .getfield 13, 3), (27, .aload_n 0, 1), (28, .getfield 164, 3), (31, .iload_n 2, 1), (32, .iastore, 1), (33, .aload_n 0, 1), (34, .getfield 16, 3), (37, .aload_n 0, 1), (38, .getfield 164, 3), (41, .iload_n 3, 1), (42, .iastore, 1), (43, .aload_n 0, 1), (44, .dup, 1), (45, .getfield 164, 3), (48, .iconst 1, 1), (49, .iadd, 1), (50, .putfield 164, 3), (53, .aload_n 0, 1), (54, .iconst 0, 1), (55, .putfield 167, 3), (58, .aload_n 0, 1), (59, .invokevirtual 119, 3), (62, .aload_n 0, 1), (63, .getfield 164, 3), (66, .ireturn, 1)]
def t_X9_wipe : List (Nat × Instr × Nat) := [(0, .aload_n 0, 1), (1, .getfield 164, 3), (4, .istore_n 1, 1), (5, .aload_n 0, 1), (6, .iconst 0, 1), (7, .putfield 164, 3), (10, .aload_n 0, 1), (11, .iconst 0, 1), (12, .putfield 167, 3), (15, .aload_n 0, 1), (16, .invokevirtual 119, 3), (19, .iload_n 1, 1), (20, .ireturn, 1)]
def t_X9_isIn : List (Nat × Instr × Nat) := [(0, .iload_n 0, 1), (1, .iload_n 1, 1), (2, .if_icmp .lt 12, 3), (5, .iload_n 0, 1), (6, .iload_n 2, 1), (7, .if_icmp .gt 7, 3), (10, .iconst 1, 1), (11, .goto 4, 3), (14, .iconst 0, 1), (15, .ireturn, 1)]
def t_X9_aFits : List (Nat × Instr × Nat) := [(0, .iload_n 0, 1), (1, .tableswitch 205 1 34 #[151, 205, 205, 205, 205, 205, 205, 205, 205, 205, 205, 205, 160, 160, 169, 169, 169, 169, 205, 205, 177, 177, 177, 177, 205, 205, 185, 160, 177, 205, 205, 205, 160, 169], 151), (152, .iload_n 1, 1), (153, .ldc 171, 2), (155, .ldc 172, 2), (157, .invokestatic 173, 3), (160, .ireturn, 1), (161, .iload_n 1, 1), (162, .iconst 0, 1), (163, .sipush 199, 3), (166, .invokestatic 173, 3), (169, .ireturn, 1), (170, .iload_n 1, 1), (171, .iconst 0, 1), (172, .bipush 15, 2), (174, .invokestatic 173, 3), (177, .ireturn, 1), (178, .iload_n 1, 1), (179, .iconst 0, 1), (180, .bipush 63, 2), (182, .invokestatic 173, 3), (185, .ireturn, 1), (186, .iload_n 1, 1), (187, .ifCond .eq 13, 3), (190, .iload_n 1, 1), (191, .iconst 1, 1), (192, .if_icmp .eq 8, 3), (195, .iload_n 1, 1), (196, .iconst 3, 1), (197, .if_icmp .ne 7, 3), (200, .iconst 1, 1), (201, .goto 4, 3), (204, .iconst 0, 1), (205, .ireturn, 1), (206, .iload_n 1, 1), (207, .ifCond .ne 7, 3), (210, .iconst 1, 1), (211, .goto 4, 3), (214, .iconst 0, 1), (215, .ireturn, 1)]
def t_X9_bFits : List (Nat × Instr × Nat) := [(0, .iload_n 0, 1), (1, .bipush 29, 2), (3, .if_icmp .ne 11, 3), (6, .iload_n 2, 1), (7, .iconst 0, 1), (8, .bipush 8, 2), (10, .invokestatic 173, 3), (13, .ireturn, 1), (14, .iload_n 0, 1), (15, .bipush 34, 2), (17, .if_icmp .ne 29, 3), (20, .iload_n 2, 1), (21, .iconst 0, 1), (22, .bipush 15, 2), (24, .invokestatic 173, 3), (27, .ifCond .eq 15, 3), (30, .iload_n 1, 1), (31, .iload_n 2, 1), (32, .iadd, 1), (33, .bipush 15, 2), (35, .if_icmp .gt 7, 3), (38, .iconst 1, 1), (39, .goto 16, 3), (42, .iconst 0, 1), (43, .goto 12, 3), (46, .iload_n 2, 1), (47, .ifCond .ne 7, 3), (50, .iconst 1, 1), (51, .goto 4, 3), (54, .iconst 0, 1), (55, .ireturn, 1)]
def t_X9_namesLabel : List (Nat × Instr × Nat) := [(0, .iload_n 0, 1), (1, .bipush 13, 2), (3, .if_icmp .eq 15, 3), (6, .iload_n 0, 1), (7, .bipush 14, 2), (9, .if_icmp .eq 9, 3), (12, .iload_n 0, 1), (13, .bipush 28, 2), (15, .if_icmp .ne 7, 3), (18, .iconst 1, 1), (19, .goto 4, 3), (22, .iconst 0, 1), (23, .ireturn, 1)]
def t_X9_faultOf : List (Nat × Instr × Nat) := [(0, .aload_n 0, 1), (1, .getfield 7, 3), (4, .iload_n 1, 1), (5, .iaload, 1), (6, .iconst 0, 1), (7, .bipush 34, 2), (9, .invokestatic 173, 3), (12, .ifCond .ne 5, 3), (15, .iconst 1, 1), (16, .ireturn, 1), (17, .aload_n 0, 1), (18, .getfield 7, 3), (21, .iload_n 1, 1), (22, .iaload, 1), (23, .aload_n 0, 1), (24, .getfield 13, 3), (27, .iload_n 1, 1), (28, .iaload, 1), (29, .invokestatic 177, 3), (32, .ifCond .eq 27, 3), (35, .aload_n 0, 1), (36, .getfield 7, 3), (39, .iload_n 1, 1), (40, .iaload, 1), (41, .aload_n 0, 1), (42, .getfield 13, 3), (45, .iload_n 1, 1), (46, .iaload, 1), (47, .aload_n 0, 1), (48, .getfield 16, 3), (51, .iload_n 1, 1), (52, .iaload, 1), (53, .invokestatic 181, 3), (56, .ifCond .ne 5, 3), (59, .iconst 2, 1), (60, .ireturn, 1), (61, .aload_n 0, 1), (62, .getfield 7, 3), (65, .iload_n 1, 1), (66, .iaload, 1), (67, .bipush 33, 2), (69, .if_icmp .ne 22, 3), (72, .aload_n 0, 1), (73, .getfield 19, 3), (76, .aload_n 0, 1), (77, .getfield 13, 3), (80, .iload_n 1, 1), (81, .iaload, 1), (82, .iaload, 1), (83, .iload_n 1, 1), (84, .iconst 1, 1), (85, .iadd, 1), (86, .if_icmp .eq 5, 3), (89, .iconst 3, 1), (90, .ireturn, 1), (91, .aload_n 0, 1), (92, .getfield 7, 3), (95, .iload_n 1, 1), (96, .iaload, 1), (97, .invokestatic 184, 3), (100, .ifCond .eq 21, 3), (103, .aload_n 0, 1), (104, .getfield 19, 3), (107, .aload_n 0, 1), (108, .getfield 13, 3), (111, .iload_n 1, 1), (112, .iaload, 1), (113, .iaload, 1), (114, .ifCond .ge 7, 3), (117, .iconst 4, 1), (118, .goto 4, 3), (121, .iconst 0, 1), (122, .ireturn, 1)]
def t_X9_link : List (Nat × Instr × Nat) := [(0, .aload_n 0, 1), (1, .iconst 0, 1), (2, .putfield 167, 3), (5, .aload_n 0, 1), (6, .invokevirtual 119, 3), (9, .iconst 0, 1), (10, .istore_n 1, 1), (11, .iload_n 1, 1), (12, .sipush 200, 3), (15, .if_icmp .ge 16, 3), (18, .aload_n 0, 1), (19, .getfield 19, 3), (22, .iload_n 1, 1), (23, .iconst (-1), 1), (24, .iastore, 1), (25, .iinc 1 1, 3), (28, .goto (-17), 3), (31, .iconst 0, 1), (32, .istore_n 1, 1), (33, .iload_n 1, 1), (34, .aload_n 0, 1), (35, .getfield 164, 3), (38, .if_icmp .ge 71, 3), (41, .aload_n 0, 1), (42, .getfield 7, 3), (45, .iload_n 1, 1), (46, .iaload, 1), (47, .bipush 33, 2), (49, .if_icmp .ne 54, 3), (52, .bipush 33, 2), (54, .aload_n 0, 1), (55, .getfield 13, 3), (58, .iload_n 1, 1), (59, .iaload, 1), (60, .invokestatic 177, 3), (63, .ifCond .eq 40, 3), (66, .aload_n 0, 1), (67, .getfield 16, 3), (70, .iload_n 1, 1), (71, .iaload, 1), (72, .ifCond .ne 31, 3), (75, .aload_n 0, 1), (76, .getfield 19, 3), (79, .aload_n 0, 1), (80, .getfield 13, 3), (83, .iload_n 1, 1), (84, .iaload, 1), (85, .iaload, 1), (86, .ifCond .ge 17, 3), (89, .aload_n 0, 1), (90, .getfield 19, 3), (93, .aload_n 0, 1), (94, .getfield 13, 3), (97, .iload_n 1, 1), (98, .iaload, 1), (99, .iload_n 1, 1), (100, .iconst 1, 1), (101, .iadd, 1), (102, .iastore, 1), (103, .iinc 1 1, 3), (106, .goto (-73), 3), (109, .aload_n 0, 1), (110, .iconst 0, 1), (111, .putfield 188, 3), (114, .iconst 0, 1), (115, .istore_n 1, 1), (116, .iload_n 1, 1), (117, .aload_n 0, 1), (118, .getfield 164, 3), (121, .if_icmp .ge 30, 3), (124, .aload_n 0, 1), (125, .aload_n 0, 1), (126, .iload_n 1, 1), (127, .invokevirtual 191, 3), (130, .putfield 188, 3), (133, .aload_n 0, 1), (134, .getfield 188, 3), (137, .ifCond .le 8, 3), (140, .bipush (-10), 2), (142, .iload_n 1, 1), (143, .isub, 1), (144, .ireturn, 1), (145, .iinc 1 1, 3), (148, .goto (-32), 3), (151, .aload_n 0, 1), (152, .iconst 1, 1), (153, .putfield 167, 3), (156, .iconst 0, 1), (157, .ireturn, 1)]
def t_X9_fault : List (Nat × Instr × Nat) := [(0, .aload_n 0, 1), (1, .getfield 188, 3), (4, .ireturn, 1)]
def t_X9_sizeOf : List (Nat × Instr × Nat) := [(0, .iconst 3, 1), (1, .aload_n 0, 1), (2, .getfield 74, 3), (5, .iload_n 1, 1), (6, .iaload, 1), (7, .iadd, 1), (8, .ireturn, 1)]
def t_X9_mark : List (Nat × Instr × Nat) := [(0, .iload_n 1, 1), (1, .iconst 2, 1), (2, .if_icmp .ne 39, 3), (5, .aload_n 0, 1), (6, .getfield 90, 3), (9, .iload_n 2, 1), (10, .baload, 1), (11, .ifCond .ne 30, 3), (14, .aload_n 0, 1), (15, .getfield 90, 3), (18, .iload_n 2, 1), (19, .iconst 1, 1), (20, .bastore, 1), (21, .aload_n 0, 1), (22, .getfield 93, 3), (25, .aload_n 0, 1), (26, .getfield 195, 3), (29, .iload_n 2, 1), (30, .iastore, 1), (31, .aload_n 0, 1), (32, .dup, 1), (33, .getfield 195, 3), (36, .iconst 1, 1), (37, .iadd, 1), (38, .putfield 195, 3), (41, .return_, 1)]
def t_X9_reach : List (Nat × Instr × Nat) := [(0, .aload_n 0, 1), (1, .iconst 0, 1), (2, .putfield 195, 3), (5, .iconst 0, 1), (6, .istore_n 2, 1), (7, .iload_n 2, 1), (8, .sipush 1500, 3), (11, .if_icmp .ge 16, 3), (14, .aload_n 0, 1), (15, .getfield 90, 3), (18, .iload_n 2, 1), (19, .iconst 0, 1), (20, .bastore, 1), (21, .iinc 2 1, 3), (24, .goto (-17), 3), (27, .iconst 0, 1), (28, .istore_n 2, 1), (29, .iload_n 2, 1), (30, .aload_n 0, 1), (31, .getfield 131, 3), (34, .if_icmp .ge 25, 3), (37, .aload_n 0, 1), (38, .aload_n 0, 1), (39, .getfield 22, 3), (42, .iload_n 2, 1), (43, .iaload, 1), (44, .aload_n 0, 1), (45, .getfield 25, 3), (48, .iload_n 2, 1), (49, .iaload, 1), (50, .invokevirtual 198, 3), (53, .iinc 2 1, 3), (56, .goto (-27), 3), (59, .iconst 0, 1), (60, .istore_n 2, 1), (61, .iload_n 2, 1), (62, .aload_n 0, 1), (63, .getfield 134, 3), (66, .if_icmp .ge 69, 3), (69, .aload_n 0, 1), (70, .aload_n 0, 1), (71, .getfield 34, 3), (74, .iload_n 2, 1), (75, .iaload, 1), (76, .aload_n 0, 1), (77, .getfield 37, 3), (80, .iload_n 2, 1), (81, .iaload, 1), (82, .invokevirtual 198, 3), (85, .iconst 0, 1), (86, .istore_n 3, 1), (87, .iload_n 3, 1), (88, .aload_n 0, 1), (89, .getfield 40, 3), (92, .iload_n 2, 1), (93, .iaload, 1), (94, .if_icmp .ge 35, 3), (97, .aload_n 0, 1), (98, .aload_n 0, 1), (99, .getfield 43, 3), (102, .bipush 16, 2), (104, .iload_n 2, 1), (105, .imul, 1), (106, .iload_n 3, 1), (107, .iadd, 1), (108, .iaload, 1), (109, .aload_n 0, 1), (110, .getfield 46, 3), (113, .bipush 16, 2), (115, .iload_n 2, 1), (116, .imul, 1), (117, .iload_n 3, 1), (118, .iadd, 1), (119, .iaload, 1), (120, .invokevirtual 198, 3), (123, .iinc 3 1, 3), (126, .goto (-39), 3), (129, .iinc 2 1, 3), (132, .goto (-71), 3), (135, .iconst 0, 1), (136, .istore_n 2, 1), (137, .iload_n 2, 1), (138, .bipush 16, 2), (140, .if_icmp .ge 25, 3), (143, .aload_n 0, 1), (144, .aload_n 0, 1), (145, .getfield 49, 3), (148, .iload_n 2, 1), (149, .iaload, 1), (150, .aload_n 0, 1), (151, .getfield 52, 3), (154, .iload_n 2, 1), (155, .iaload, 1), (156, .invokevirtual 198, 3), (159, .iinc 2 1, 3), (162, .goto (-25), 3), (165, .iconst 0, 1), (166, .istore_n 2, 1), (167, .iload_n 2, 1), (168, .iconst 4, 1), (169, .if_icmp .ge 33, 3), (172, .aload_n 0, 1), (173, .aload_n 0, 1), (174, .getfield 55, 3), (177, .iload_n 2, 1), (178, .iaload, 1), (179, .ifCond .ge 7, 3), (182, .iconst 0, 1), (183, .goto 4, 3), (186, .iconst 2, 1), (187, .aload_n 0, 1), (188, .getfield 55, 3), (191, .iload_n 2, 1), (192, .iaload, 1), (193, .invokevirtual 198, 3), (196, .iinc 2 1, 3), (199, .goto (-32), 3), (202, .iconst 0, 1), (203, .istore_n 2, 1), (204, .iload_n 2, 1), (205, .sipush 1500, 3), (208, .if_icmp .ge 41, 3), (211, .iload_n 1, 1), (212, .ifCond .eq 37, 3), (215, .aload_n 0, 1), (216, .aload_n 0, 1), (217, .getfield 64, 3), (220, .iload_n 2, 1), (221, .iaload, 1), (222, .ifCond .le 16, 3), (225, .aload_n 0, 1), (226, .getfield 67, 3), (229, .iload_n 2, 1), (230, .baload, 1), (231, .ifCond .eq 7, 3), (234, .iconst 2, 1), (235, .goto 4, 3), (238, .iconst 0, 1), (239, .iload_n 2, 1), (240, .invokevirtual 198, 3), (243, .iinc 2 1, 3), (246, .goto (-42), 3), (249, .iconst 0, 1), (250, .istore_n 2, 1), (251, .iload_n 2, 1), (252, .aload_n 0, 1), (253, .getfield 195, 3), (256, .if_icmp .ge 88, 3), (259, .aload_n 0, 1), (260, .getfield 93, 3), (263, .iload_n 2, 1), (264, .iaload, 1), (265, .istore_n 3, 1), (266, .aload_n 0, 1), (267, .aload_n 0, 1), (268, .getfield 71, 3), (271, .iload_n 3, 1), (272, .iaload, 1), (273, .ifCond .ge 7, 3), (276, .iconst 0, 1), (277, .goto 4, 3), (280, .iconst 2, 1), (281, .aload_n 0, 1), (282, .getfield 71, 3), (285, .iload_n 3, 1), (286, .iaload, 1), (287, .invokevirtual 198, 3), (290, .iconst 0, 1), (291, .istore 4, 2), (293, .iload 4, 2), (295, .aload_n 0, 1), (296, .getfield 74, 3), (299, .iload_n 3, 1), (300, .iaload, 1), (301, .if_icmp .ge 37, 3), (304, .aload_n 0, 1), (305, .aload_n 0, 1), (306, .getfield 84, 3), (309, .bipush 40, 2), (311, .iload_n 3, 1), (312, .imul, 1), (313, .iload 4, 2), (315, .iadd, 1), (316, .iaload, 1), (317, .aload_n 0, 1), (318, .getfield 87, 3), (321, .bipush 40, 2), (323, .iload_n 3, 1), (324, .imul, 1), (325, .iload 4, 2), (327, .iadd, 1), (328, .iaload, 1), (329, .invokevirtual 198, 3), (332, .iinc 4 1, 3), (335, .goto (-42), 3), (338, .iinc 2 1, 3), (341, .goto (-90), 3), (344, .return_, 1)]
def t_X9_free : List (Nat × Instr × Nat) := [(0, .aload_n 0, 1), (1, .getfield 67, 3), (4, .iload_n 1, 1), (5, .baload, 1), (6, .ifCond .eq 20, 3), (9, .aload_n 0, 1), (10, .aload_n 0, 1), (11, .getfield 146, 3), (14, .aload_n 0, 1), (15, .iload_n 1, 1), (16, .invokevirtual 202, 3), (19, .isub, 1), (20, .putfield 146, 3), (23, .goto 17, 3), (26, .aload_n 0, 1), (27, .aload_n 0, 1), (28, .getfield 143, 3), (31, .aload_n 0, 1), (32, .iload_n 1, 1), (33, .invokevirtual 202, 3), (36, .isub, 1), (37, .putfield 143, 3), (40, .aload_n 0, 1), (41, .getfield 64, 3), (44, .iload_n 1, 1), (45, .iconst 0, 1), (46, .iastore, 1), (47, .aload_n 0, 1), (48, .dup, 1), (49, .getfield 149, 3), (52, .iconst 1, 1), (53, .iadd, 1), (54, .putfield 149, 3), (57, .return_, 1)]
def t_X9_major : List (Nat × Instr × Nat) := [(0, .aload_n 0, 1), (1, .iconst 0, 1), (2, .invokevirtual 205, 3), (5, .aload_n 0, 1), (6, .getfield 143, 3), (9, .aload_n 0, 1), (10, .getfield 146, 3), (13, .iadd, 1), (14, .istore_n 1, 1), (15, .iconst 0, 1), (16, .istore_n 2, 1), (17, .iload_n 2, 1), (18, .sipush 1500, 3), (21, .if_icmp .ge 32, 3), (24, .aload_n 0, 1), (25, .getfield 64, 3), (28, .iload_n 2, 1), (29, .iaload, 1), (30, .ifCond .le 17, 3), (33, .aload_n 0, 1), (34, .getfield 90, 3), (37, .iload_n 2, 1), (38, .baload, 1), (39, .ifCond .ne 8, 3), (42, .aload_n 0, 1), (43, .iload_n 2, 1), (44, .invokevirtual 209, 3), (47, .iinc 2 1, 3), (50, .goto (-33), 3), (53, .aload_n 0, 1), (54, .dup, 1), (55, .getfield 155, 3), (58, .iconst 1, 1), (59, .iadd, 1), (60, .putfield 155, 3), (63, .iload_n 1, 1), (64, .aload_n 0, 1), (65, .getfield 143, 3), (68, .isub, 1), (69, .aload_n 0, 1), (70, .getfield 146, 3), (73, .isub, 1), (74, .ireturn, 1)]
def t_X9_heldCells : List (Nat × Instr × Nat) := [(0, .aload_n 0, 1), (1, .iconst 1, 1), (2, .invokevirtual 205, 3), (5, .iconst 0, 1), (6, .istore_n 1, 1), (7, .iconst 0, 1), (8, .istore_n 2, 1), (9, .iload_n 2, 1), (10, .sipush 1500, 3), (13, .if_icmp .ge 44, 3), (16, .aload_n 0, 1), (17, .getfield 64, 3), (20, .iload_n 2, 1), (21, .iaload, 1), (22, .ifCond .le 29, 3), (25, .aload_n 0, 1), (26, .getfield 67, 3), (29, .iload_n 2, 1), (30, .baload, 1), (31, .ifCond .ne 20, 3), (34, .aload_n 0, 1), (35, .getfield 90, 3), (38, .iload_n 2, 1), (39, .baload, 1), (40, .ifCond .eq 11, 3), (43, .iload_n 1, 1), (44, .aload_n 0, 1), (45, .iload_n 2, 1), (46, .invokevirtual 202, 3), (49, .iadd, 1), (50, .istore_n 1, 1), (51, .iinc 2 1, 3), (54, .goto (-45), 3), (57, .iload_n 1, 1), (58, .ireturn, 1)]
def t_X9_minor : List (Nat × Instr × Nat) := [(0, .aload_n 0, 1), (1, .invokevirtual 213, 3), (4, .istore_n 1, 1), (5, .aload_n 0, 1), (6, .getfield 116, 3), (9, .aload_n 0, 1), (10, .getfield 146, 3), (13, .isub, 1), (14, .iload_n 1, 1), (15, .if_icmp .ge 28, 3), (18, .aload_n 0, 1), (19, .invokevirtual 217, 3), (22, .istore_n 2, 1), (23, .aload_n 0, 1), (24, .invokevirtual 213, 3), (27, .istore_n 1, 1), (28, .aload_n 0, 1), (29, .getfield 116, 3), (32, .aload_n 0, 1), (33, .getfield 146, 3), (36, .isub, 1), (37, .iload_n 1, 1), (38, .if_icmp .ge 5, 3), (41, .iconst 0, 1), (42, .ireturn, 1), (43, .iconst 0, 1), (44, .istore_n 2, 1), (45, .iload_n 2, 1), (46, .sipush 1500, 3), (49, .if_icmp .ge 41, 3), (52, .aload_n 0, 1), (53, .getfield 64, 3), (56, .iload_n 2, 1), (57, .iaload, 1), (58, .ifCond .le 26, 3), (61, .aload_n 0, 1), (62, .getfield 67, 3), (65, .iload_n 2, 1), (66, .baload, 1), (67, .ifCond .ne 17, 3), (70, .aload_n 0, 1), (71, .getfield 90, 3), (74, .iload_n 2, 1), (75, .baload, 1), (76, .ifCond .ne 8, 3), (79, .aload_n 0, 1), (80, .iload_n 2, 1), (81, .invokevirtual 209, 3), (84, .iinc 2 1, 3), (87, .goto (-42), 3), (90, .iconst 0, 1), (91, .istore_n 2, 1), (92, .iload_n 2, 1), (93, .sipush 1500, 3), (96, .if_icmp .ge 25, 3), (99, .aload_n 0, 1), (100, .getfield 64, 3), (103, .iload_n 2, 1), (104, .iaload, 1), (105, .ifCond .le 10, 3), (108, .aload_n 0, 1), (109, .getfield 67, 3), (112, .iload_n 2, 1), (113, .iconst 1, 1), (114, .bastore, 1), (115, .iinc 2 1, 3), (118, .goto (-26), 3), (121, .aload_n 0, 1), (122, .aload_n 0, 1), (123, .getfield 146, 3), (126, .aload_n 0, 1), (127, .getfield 143, 3), (130, .iadd, 1), (131, .putfield 146, 3), (134, .aload_n 0, 1), (135, .iconst 0, 1), (136, .putfield 143, 3), (139, .aload_n 0, 1), (140, .iload_n 1, 1), (141, .putfield 220, 3), (144, .aload_n 0, 1), (145, .dup, 1), (146, .getfield 152, 3), (149, .iconst 1, 1), (150, .iadd, 1), (151, .putfield 152, 3), (154, .iconst 1, 1), (155, .ireturn, 1)]
def t_X9_greatHas : List (Nat × Instr × Nat) := [(0, .aload_n 0, 1), (1, .getfield 116, 3), (4, .aload_n 0, 1), (5, .getfield 146, 3), (8, .isub, 1), (9, .iload_n 1, 1), (10, .if_icmp .lt 5, 3), (13, .iconst 1, 1), (14, .ireturn, 1), (15, .aload_n 0, 1), (16, .invokevirtual 217, 3), (19, .istore_n 2, 1), (20, .aload_n 0, 1), (21, .getfield 116, 3), (24, .aload_n 0, 1), (25, .getfield 146, 3), (28, .isub, 1), (29, .iload_n 1, 1), (30, .if_icmp .lt 7, 3), (33, .iconst 1, 1), (34, .goto 4, 3), (37, .iconst 0, 1), (38, .ireturn, 1)]
def t_X9_make : List (Nat × Instr × Nat) := [(0, .aload_n 0, 1), (1, .getfield 112, 3), (4, .aload_n 0, 1), (5, .getfield 143, 3), (8, .isub, 1), (9, .iload_n 1, 1), (10, .if_icmp .ge 12, 3), (13, .aload_n 0, 1), (14, .invokevirtual 223, 3), (17, .ifCond .ne 5, 3), (20, .iconst (-1), 1), (21, .ireturn, 1), (22, .aload_n 0, 1), (23, .getfield 112, 3), (26, .aload_n 0, 1), (27, .getfield 143, 3), (30, .isub, 1), (31, .iload_n 1, 1), (32, .if_icmp .ge 7, 3), (35, .iconst 1, 1), (36, .goto 4, 3), (39, .iconst 0, 1), (40, .istore_n 2, 1), (41, .iload_n 2, 1), (42, .ifCond .eq 13, 3), (45, .aload_n 0, 1), (46, .iload_n 1, 1), (47, .invokevirtual 227, 3), (50, .ifCond .ne 5, 3), (53, .iconst (-1), 1), (54, .ireturn, 1), (55, .iconst 0, 1), (56, .istore_n 3, 1), (57, .aload_n 0, 1), (58, .getfield 64, 3), (61, .iload_n 3, 1), (62, .iaload, 1), (63, .ifCond .le 9, 3), (66, .iinc 3 1, 3), (69, .goto (-12), 3), (72, .aload_n 0, 1), (73, .dup, 1), (74, .getfield 140, 3), (77, .iconst 1, 1), (78, .iadd, 1), (79, .putfield 140, 3), (82, .aload_n 0, 1), (83, .getfield 64, 3), (86, .iload_n 3, 1), (87, .aload_n 0, 1), (88, .getfield 140, 3), (91, .iastore, 1), (92, .aload_n 0, 1), (93, .getfield 67, 3), (96, .iload_n 3, 1), (97, .iload_n 2, 1), (98, .bastore, 1), (99, .aload_n 0, 1), (100, .getfield 71, 3), (103, .iload_n 3, 1), (104, .iconst (-1), 1), (105, .iastore, 1), (106, .aload_n 0, 1), (107, .getfield 74, 3), (110, .iload_n 3, 1), (111, .iconst 0, 1), (112, .iastore, 1), (113, .aload_n 0, 1), (114, .getfield 77, 3), (117, .iload_n 3, 1), (118, .iconst 0, 1), (119, .iastore, 1), (120, .iload_n 2, 1), (121, .ifCond .eq 16, 3), (124, .aload_n 0, 1), (125, .aload_n 0, 1), (126, .getfield 146, 3), (129, .iload_n 1, 1), (130, .iadd, 1), (131, .putfield 146, 3), (134, .goto 13, 3), (137, .aload_n 0, 1), (138, .aload_n 0, 1), (139, .getfield 143, 3), (142, .iload_n 1, 1), (143, .iadd, 1), (144, .putfield 143, 3), (147, .iload_n 3, 1), (148, .ireturn, 1)]
def t_X9_widen : List (Nat × Instr × Nat) := [(0, .aload_n 0, 1), (1, .getfield 67, 3), (4, .iload_n 1, 1), (5, .baload, 1), (6, .ifCond .ne 23, 3), (9, .aload_n 0, 1), (10, .getfield 143, 3), (13, .aload_n 0, 1), (14, .getfield 112, 3), (17, .if_icmp .ne 12, 3), (20, .aload_n 0, 1), (21, .invokevirtual 223, 3), (24, .ifCond .ne 5, 3), (27, .iconst 0, 1), (28, .ireturn, 1), (29, .aload_n 0, 1), (30, .getfield 67, 3), (33, .iload_n 1, 1), (34, .baload, 1), (35, .ifCond .ne 15, 3), (38, .aload_n 0, 1), (39, .dup, 1), (40, .getfield 143, 3), (43, .iconst 1, 1), (44, .iadd, 1), (45, .putfield 143, 3), (48, .iconst 1, 1), (49, .ireturn, 1), (50, .aload_n 0, 1), (51, .iconst 1, 1), (52, .invokevirtual 227, 3), (55, .ifCond .ne 5, 3), (58, .iconst 0, 1), (59, .ireturn, 1), (60, .aload_n 0, 1), (61, .dup, 1), (62, .getfield 146, 3), (65, .iconst 1, 1), (66, .iadd, 1), (67, .putfield 146, 3), (70, .iconst 1, 1), (71, .ireturn, 1)]
def t_X9_topKind : List (Nat × Instr × Nat) := [(0, .aload_n 0, 1), (1, .getfield 22, 3), (4, .aload_n 0, 1), (5, .getfield 131, 3), (8, .iconst 1, 1), (9, .isub, 1), (10, .iload_n 1, 1), (11, .isub, 1), (12, .iaload, 1), (13, .ireturn, 1)]
def t_X9_topNumber : List (Nat × Instr × Nat) := [(0, .aload_n 0, 1), (1, .getfield 25, 3), (4, .aload_n 0, 1), (5, .getfield 131, 3), (8, .iconst 1, 1), (9, .isub, 1), (10, .iload_n 1, 1), (11, .isub, 1), (12, .iaload, 1), (13, .ireturn, 1)]
def t_X9_push : List (Nat × Instr × Nat) := [(0, .aload_n 0, 1), (1, .getfield 22, 3), (4, .aload_n 0, 1), (5, .getfield 131, 3), (8, .iload_n 1, 1), (9, .iastore, 1), (10, .aload_n 0, 1), (11, .getfield 25, 3), (14, .aload_n 0, 1), (15, .getfield 131, 3), (18, .iload_n 2, 1), (19, .iastore, 1), (20, .aload_n 0, 1), (21, .dup, 1), (22, .getfield 131, 3), (25, .iconst 1, 1), (26, .iadd, 1), (27, .putfield 131, 3), (30, .return_, 1)]
def t_X9_ends : List (Nat × Instr × Nat) := [(0, .aload_n 0, 1), (1, .iload_n 1, 1), (2, .putfield 122, 3), (5, .iload_n 1, 1), (6, .ireturn, 1)]
def t_X9_well : List (Nat × Instr × Nat) := [(0, .aload_n 0, 1), (1, .iload_n 1, 1), (2, .putfield 125, 3), (5, .aload_n 0, 1), (6, .dup, 1), (7, .getfield 128, 3), (10, .iconst 1, 1), (11, .iadd, 1), (12, .putfield 128, 3), (15, .iconst 0, 1), (16, .ireturn, 1)]
def t_X9_chainOf : List (Nat × Instr × Nat) := [(0, .iload_n 1, 1), (1, .iconst 2, 1), (2, .if_icmp .ne 7, 3), (5, .iload_n 2, 1), (6, .goto 9, 3), (9, .aload_n 0, 1), (10, .getfield 55, 3), (13, .iload_n 1, 1), (14, .iaload, 1), (15, .ireturn, 1)]
def t_X9_ownSlot : List (Nat × Instr × Nat) := [(0, .iconst 0, 1), (1, .istore_n 3, 1), (2, .iload_n 3, 1), (3, .aload_n 0, 1), (4, .getfield 74, 3), (7, .iload_n 1, 1), (8, .iaload, 1), (9, .if_icmp .ge 31, 3), (12, .aload_n 0, 1), (13, .getfield 81, 3), (16, .bipush 40, 2), (18, .iload_n 1, 1), (19, .imul, 1), (20, .iload_n 3, 1), (21, .iadd, 1), (22, .iaload, 1), (23, .iload_n 2, 1), (24, .if_icmp .ne 10, 3), (27, .bipush 40, 2), (29, .iload_n 1, 1), (30, .imul, 1), (31, .iload_n 3, 1), (32, .iadd, 1), (33, .ireturn, 1), (34, .iinc 3 1, 3), (37, .goto (-35), 3), (40, .iconst (-1), 1), (41, .ireturn, 1)]
def t_X9_find : List (Nat × Instr × Nat) := [(0, .aload_n 0, 1), (1, .iload_n 1, 1), (2, .iload_n 2, 1), (3, .invokevirtual 230, 3), (6, .istore 4, 2), (8, .iload 4, 2), (10, .ifCond .lt 32, 3), (13, .aload_n 0, 1), (14, .iload 4, 2), (16, .iload_n 3, 1), (17, .invokevirtual 234, 3), (20, .istore 5, 2), (22, .iload 5, 2), (24, .ifCond .lt 6, 3), (27, .iload 5, 2), (29, .ireturn, 1), (30, .aload_n 0, 1), (31, .getfield 71, 3), (34, .iload 4, 2), (36, .iaload, 1), (37, .istore 4, 2), (39, .goto (-31), 3), (42, .iconst (-1), 1), (43, .ireturn, 1)]
def t_X9_touch : List (Nat × Instr × Nat) := [(0, .aload_n 0, 1), (1, .getfield 77, 3), (4, .iload_n 1, 1), (5, .aload_n 0, 1), (6, .getfield 128, 3), (9, .iconst 1, 1), (10, .iadd, 1), (11, .iastore, 1), (12, .return_, 1)]
def t_X9_serialAt : List (Nat × Instr × Nat) := [(0, .iload_n 1, 1), (1, .ifCond .ge 7, 3), (4, .iconst 0, 1), (5, .goto 9, 3), (8, .aload_n 0, 1), (9, .getfield 64, 3), (12, .iload_n 1, 1), (13, .iaload, 1), (14, .ireturn, 1)]
def t_X9_remembers : List (Nat × Instr × Nat) := [(0, .aload_n 0, 1), (1, .getfield 96, 3), (4, .iload_n 1, 1), (5, .iaload, 1), (6, .iload_n 2, 1), (7, .if_icmp .eq 5, 3), (10, .iconst 0, 1), (11, .ireturn, 1), (12, .iload_n 2, 1), (13, .iconst 2, 1), (14, .if_icmp .eq 28, 3), (17, .aload_n 0, 1), (18, .getfield 99, 3), (21, .iload_n 1, 1), (22, .iaload, 1), (23, .aload_n 0, 1), (24, .aload_n 0, 1), (25, .getfield 55, 3), (28, .iload_n 2, 1), (29, .iaload, 1), (30, .invokevirtual 237, 3), (33, .if_icmp .ne 7, 3), (36, .iconst 1, 1), (37, .goto 4, 3), (40, .iconst 0, 1), (41, .ireturn, 1), (42, .aload_n 0, 1), (43, .getfield 102, 3), (46, .iload_n 1, 1), (47, .iaload, 1), (48, .aload_n 0, 1), (49, .getfield 74, 3), (52, .iload_n 3, 1), (53, .iaload, 1), (54, .if_icmp .ne 26, 3), (57, .aload_n 0, 1), (58, .getfield 99, 3), (61, .iload_n 1, 1), (62, .iaload, 1), (63, .aload_n 0, 1), (64, .aload_n 0, 1), (65, .getfield 71, 3), (68, .iload_n 3, 1), (69, .iaload, 1), (70, .invokevirtual 237, 3), (73, .if_icmp .ne 7, 3), (76, .iconst 1, 1), (77, .goto 4, 3), (80, .iconst 0, 1), (81, .istore 4, 2), (83, .iconst 0, 1), (84, .istore 5, 2), (86, .iload 5, 2), (88, .aload_n 0, 1), (89, .getfield 74, 3), (92, .iload_n 3, 1), (93, .iaload, 1), (94, .if_icmp .ge 48, 3), (97, .iload 4, 2), (99, .ifCond .eq 43, 3), (102, .aload_n 0, 1), (103, .getfield 106, 3), (106, .bipush 40, 2), (108, .iload_n 1, 1), (109, .imul, 1), (110, .iload 5, 2), (112, .iadd, 1), (113, .iaload, 1), (114, .aload_n 0, 1), (115, .getfield 81, 3), (118, .bipush 40, 2), (120, .iload_n 3, 1), (121, .imul, 1), (122, .iload 5, 2), (124, .iadd, 1), (125, .iaload, 1), (126, .if_icmp .ne 7, 3), (129, .iconst 1, 1), (130, .goto 4, 3), (133, .iconst 0, 1), (134, .istore 4, 2), (136, .iinc 5 1, 3), (139, .goto (-53), 3), (142, .iload 4, 2), (144, .ireturn, 1)]
def t_X9_isCalm : List (Nat × Instr × Nat) := [(0, .iload_n 2, 1), (1, .iconst 2, 1), (2, .if_icmp .ne 12, 3), (5, .aload_n 0, 1), (6, .getfield 71, 3), (9, .iload_n 3, 1), (10, .iaload, 1), (11, .goto 9, 3), (14, .aload_n 0, 1), (15, .getfield 55, 3), (18, .iload_n 2, 1), (19, .iaload, 1), (20, .istore 4, 2), (22, .iload 4, 2), (24, .ifCond .lt 33, 3), (27, .aload_n 0, 1), (28, .getfield 77, 3), (31, .iload 4, 2), (33, .iaload, 1), (34, .aload_n 0, 1), (35, .getfield 109, 3), (38, .iload_n 1, 1), (39, .iaload, 1), (40, .if_icmp .le 5, 3), (43, .iconst 0, 1), (44, .ireturn, 1), (45, .aload_n 0, 1), (46, .getfield 71, 3), (49, .iload 4, 2), (51, .iaload, 1), (52, .istore 4, 2), (54, .goto (-32), 3), (57, .iconst 1, 1), (58, .ireturn, 1)]
def t_X9_meet : List (Nat × Instr × Nat) := [(0, .aload_n 0, 1), (1, .dup, 1), (2, .getfield 161, 3), (5, .iconst 1, 1), (6, .iadd, 1), (7, .putfield 161, 3), (10, .aload_n 0, 1), (11, .iload_n 1, 1), (12, .iload_n 2, 1), (13, .iload_n 3, 1), (14, .invokevirtual 240, 3), (17, .ifCond .eq 23, 3), (20, .aload_n 0, 1), (21, .iload_n 1, 1), (22, .iload_n 2, 1), (23, .iload_n 3, 1), (24, .invokevirtual 243, 3), (27, .ifCond .eq 13, 3), (30, .aload_n 0, 1), (31, .dup, 1), (32, .getfield 158, 3), (35, .iconst 1, 1), (36, .iadd, 1), (37, .putfield 158, 3), (40, .aload_n 0, 1), (41, .getfield 96, 3), (44, .iload_n 1, 1), (45, .iload_n 2, 1), (46, .iastore, 1), (47, .aload_n 0, 1), (48, .getfield 109, 3), (51, .iload_n 1, 1), (52, .aload_n 0, 1), (53, .getfield 128, 3), (56, .iconst 1, 1), (57, .iadd, 1), (58, .iastore, 1), (59, .iload_n 2, 1), (60, .iconst 2, 1), (61, .if_icmp .eq 20, 3), (64, .aload_n 0, 1), (65, .getfield 99, 3), (68, .iload_n 1, 1), (69, .aload_n 0, 1), (70, .aload_n 0, 1), (71, .getfield 55, 3), (74, .iload_n 2, 1), (75, .iaload, 1), (76, .invokevirtual 237, 3), (79, .iastore, 1), (80, .return_, 1), (81, .aload_n 0, 1), (82, .getfield 99, 3), (85, .iload_n 1, 1), (86, .aload_n 0, 1), (87, .aload_n 0, 1), (88, .getfield 71, 3), (91, .iload_n 3, 1), (92, .iaload, 1), (93, .invokevirtual 237, 3), (96, .iastore, 1), (97, .aload_n 0, 1), (98, .getfield 102, 3), (101, .iload_n 1, 1), (102, .aload_n 0, 1), (103, .getfield 74, 3), (106, .iload_n 3, 1), (107, .iaload, 1), (108, .iastore, 1), (109, .iconst 0, 1), (110, .istore 4, 2), (112, .iload 4, 2), (114, .aload_n 0, 1), (115, .getfield 74, 3), (118, .iload_n 3, 1), (119, .iaload, 1), (120, .if_icmp .ge 33, 3), (123, .aload_n 0, 1), (124, .getfield 106, 3), (127, .bipush 40, 2), (129, .iload_n 1, 1), (130, .imul, 1), (131, .iload 4, 2), (133, .iadd, 1), (134, .aload_n 0, 1), (135, .getfield 81, 3), (138, .bipush 40, 2), (140, .iload_n 3, 1), (141, .imul, 1), (142, .iload 4, 2), (144, .iadd, 1), (145, .iaload, 1), (146, .iastore, 1), (147, .iinc 4 1, 3), (150, .goto (-38), 3), (153, .return_, 1)]
def t_X9_wants : List (Nat × Instr × Nat) := [(0, .iload_n 0, 1), (1, .tableswitch 143 3 32 #[135, 135, 137, 137, 137, 137, 137, 137, 137, 137, 143, 135, 143, 135, 143, 135, 135, 135, 135, 137, 135, 135, 135, 137, 135, 143, 139, 143, 135, 135], 135), (136, .iconst 1, 1), (137, .ireturn, 1), (138, .iconst 2, 1), (139, .ireturn, 1), (140, .iload_n 1, 1), (141, .iconst 1, 1), (142, .iadd, 1), (143, .ireturn, 1), (144, .iconst 0, 1), (145, .ireturn, 1)]
def t_X9_put : List (Nat × Instr × Nat) := [(0, .aload_n 0, 1), (1, .getfield 131, 3), (4, .sipush 1000, 3), (7, .if_icmp .ne 9, 3), (10, .aload_n 0, 1), (11, .iconst 5, 1), (12, .invokevirtual 246, 3), (15, .ireturn, 1), (16, .aload_n 0, 1), (17, .iload_n 1, 1), (18, .iload_n 2, 1), (19, .invokevirtual 249, 3), (22, .aload_n 0, 1), (23, .aload_n 0, 1), (24, .getfield 125, 3), (27, .iconst 1, 1), (28, .iadd, 1), (29, .invokevirtual 252, 3), (32, .ireturn, 1)]
def t_X9_reckon : List (Nat × Instr × Nat) := [(0, .aload_n 0, 1), (1, .iconst 1, 1), (2, .invokevirtual 255, 3), (5, .iconst 1, 1), (6, .if_icmp .ne 12, 3), (9, .aload_n 0, 1), (10, .iconst 0, 1), (11, .invokevirtual 255, 3), (14, .iconst 1, 1), (15, .if_icmp .eq 9, 3), (18, .aload_n 0, 1), (19, .iconst 3, 1), (20, .invokevirtual 246, 3), (23, .ireturn, 1), (24, .aload_n 0, 1), (25, .iconst 1, 1), (26, .invokevirtual 258, 3), (29, .i2l, 1), (30, .lstore_n 2, 1), (31, .aload_n 0, 1), (32, .iconst 0, 1), (33, .invokevirtual 258, 3), (36, .i2l, 1), (37, .lstore 4, 2), (39, .iload_n 1, 1), (40, .bipush 9, 2), (42, .if_icmp .eq 9, 3), (45, .iload_n 1, 1), (46, .bipush 10, 2), (48, .if_icmp .ne 16, 3), (51, .lload 4, 2), (53, .lconst 0, 1), (54, .lcmp, 1), (55, .ifCond .ne 9, 3), (58, .aload_n 0, 1), (59, .iconst 4, 1), (60, .invokevirtual 246, 3), (63, .ireturn, 1), (64, .iload_n 1, 1), (65, .bipush 6, 2), (67, .if_icmp .ne 10, 3), (70, .lload_n 2, 1), (71, .lload 4, 2), (73, .ladd, 1), (74, .goto 67, 3), (77, .iload_n 1, 1), (78, .bipush 7, 2), (80, .if_icmp .ne 10, 3), (83, .lload_n 2, 1), (84, .lload 4, 2), (86, .lsub, 1), (87, .goto 54, 3), (90, .iload_n 1, 1), (91, .bipush 8, 2), (93, .if_icmp .ne 10, 3), (96, .lload_n 2, 1), (97, .lload 4, 2), (99, .lmul, 1), (100, .goto 41, 3), (103, .iload_n 1, 1), (104, .bipush 9, 2), (106, .if_icmp .ne 10, 3), (109, .lload_n 2, 1), (110, .lload 4, 2), (112, .ldiv, 1), (113, .goto 28, 3), (116, .iload_n 1, 1), (117, .bipush 10, 2), (119, .if_icmp .ne 10, 3), (122, .lload_n 2, 1), (123, .lload 4, 2), (125, .lrem, 1), (126, .goto 15, 3), (129, .lload_n 2, 1), (130, .lload 4, 2), (132, .lcmp, 1), (133, .ifCond .ge 7, 3), (136, .lconst 1, 1), (137, .goto 4, 3), (140, .lconst 0, 1), (141, .lstore 6, 2), (143, .lload 6, 2), (145, .ldc2_w 261, 3), (148, .lcmp, 1), (149, .ifCond .lt 12, 3), (152, .lload 6, 2), (154, .ldc2_w 263, 3), (157, .lcmp, 1), (158, .ifCond .le 10, 3), (161, .aload_n 0, 1), (162, .bipush 6, 2), (164, .invokevirtual 246, 3), (167, .ireturn, 1), (168, .aload_n 0, 1), (169, .aload_n 0, 1), (170, .getfield 131, 3), (173, .iconst 2, 1), (174, .isub, 1), (175, .putfield 131, 3), (178, .aload_n 0, 1), (179, .iconst 1, 1), (180, .lload 6, 2), (182, .l2i, 1), (183, .invokevirtual 249, 3), (186, .aload_n 0, 1), (187, .aload_n 0, 1), (188, .getfield 125, 3), (191, .iconst 1, 1), (192, .iadd, 1), (193, .invokevirtual 252, 3), (196, .ireturn, 1)]
def t_X9_fresh : List (Nat × Instr × Nat) := [(0, .aload_n 0, 1), (1, .iconst 0, 1), (2, .invokevirtual 255, 3), (5, .iconst 2, 1), (6, .if_icmp .eq 17, 3), (9, .aload_n 0, 1), (10, .iconst 0, 1), (11, .invokevirtual 255, 3), (14, .ifCond .eq 9, 3), (17, .aload_n 0, 1), (18, .iconst 3, 1), (19, .invokevirtual 246, 3), (22, .ireturn, 1), (23, .aload_n 0, 1), (24, .iconst 3, 1), (25, .invokevirtual 265, 3), (28, .istore_n 1, 1), (29, .iload_n 1, 1), (30, .ifCond .ge 10, 3), (33, .aload_n 0, 1), (34, .bipush 8, 2), (36, .invokevirtual 246, 3), (39, .ireturn, 1), (40, .aload_n 0, 1), (41, .getfield 71, 3), (44, .iload_n 1, 1), (45, .aload_n 0, 1), (46, .iconst 0, 1), (47, .invokevirtual 255, 3), (50, .iconst 2, 1), (51, .if_icmp .ne 11, 3), (54, .aload_n 0, 1), (55, .iconst 0, 1), (56, .invokevirtual 258, 3), (59, .goto 4, 3), (62, .iconst (-1), 1), (63, .iastore, 1), (64, .aload_n 0, 1), (65, .dup, 1), (66, .getfield 131, 3), (69, .iconst 1, 1), (70, .isub, 1), (71, .putfield 131, 3), (74, .aload_n 0, 1), (75, .iconst 2, 1), (76, .iload_n 1, 1), (77, .invokevirtual 249, 3), (80, .aload_n 0, 1), (81, .aload_n 0, 1), (82, .getfield 125, 3), (85, .iconst 1, 1), (86, .iadd, 1), (87, .invokevirtual 252, 3), (90, .ireturn, 1)]
def t_X9_copy : List (Nat × Instr × Nat) := [(0, .aload_n 0, 1), (1, .iconst 0, 1), (2, .invokevirtual 255, 3), (5, .iconst 2, 1), (6, .if_icmp .eq 9, 3), (9, .aload_n 0, 1), (10, .iconst 3, 1), (11, .invokevirtual 246, 3), (14, .ireturn, 1), (15, .aload_n 0, 1), (16, .iconst 0, 1), (17, .invokevirtual 258, 3), (20, .istore_n 1, 1), (21, .aload_n 0, 1), (22, .aload_n 0, 1), (23, .iload_n 1, 1), (24, .invokevirtual 202, 3), (27, .invokevirtual 265, 3), (30, .istore_n 2, 1), (31, .iload_n 2, 1), (32, .ifCond .ge 10, 3), (35, .aload_n 0, 1), (36, .bipush 8, 2), (38, .invokevirtual 246, 3), (41, .ireturn, 1), (42, .aload_n 0, 1), (43, .getfield 71, 3), (46, .iload_n 2, 1), (47, .aload_n 0, 1), (48, .getfield 71, 3), (51, .iload_n 1, 1), (52, .iaload, 1), (53, .iastore, 1), (54, .aload_n 0, 1), (55, .getfield 74, 3), (58, .iload_n 2, 1), (59, .aload_n 0, 1), (60, .getfield 74, 3), (63, .iload_n 1, 1), (64, .iaload, 1), (65, .iastore, 1), (66, .iconst 0, 1), (67, .istore_n 3, 1), (68, .iload_n 3, 1), (69, .aload_n 0, 1), (70, .getfield 74, 3), (73, .iload_n 1, 1), (74, .iaload, 1), (75, .if_icmp .ge 75, 3), (78, .aload_n 0, 1), (79, .getfield 81, 3), (82, .bipush 40, 2), (84, .iload_n 2, 1), (85, .imul, 1), (86, .iload_n 3, 1), (87, .iadd, 1), (88, .aload_n 0, 1), (89, .getfield 81, 3), (92, .bipush 40, 2), (94, .iload_n 1, 1), (95, .imul, 1), (96, .iload_n 3, 1), (97, .iadd, 1), (98, .iaload, 1), (99, .iastore, 1), (100, .aload_n 0, 1), (101, .getfield 84, 3), (104, .bipush 40, 2), (106, .iload_n 2, 1), (107, .imul, 1), (108, .iload_n 3, 1), (109, .iadd, 1), (110, .aload_n 0, 1), (111, .getfield 84, 3), (114, .bipush 40, 2), (116, .iload_n 1, 1), (117, .imul, 1), (118, .iload_n 3, 1), (119, .iadd, 1), (120, .iaload, 1), (121, .iastore, 1), (122, .aload_n 0, 1), (123, .getfield 87, 3), (126, .bipush 40, 2), (128, .iload_n 2, 1), (129, .imul, 1), (130, .iload_n 3, 1), (131, .iadd, 1), (132, .aload_n 0, 1), (133, .getfield 87, 3), (136, .bipush 40, 2), (138, .iload_n 1, 1), (139, .imul, 1), (140, .iload_n 3, 1), (141, .iadd, 1), (142, .iaload, 1), (143, .iastore, 1), (144, .iinc 3 1, 3), (147, .goto (-79), 3), (150, .aload_n 0, 1), (151, .dup, 1), (152, .getfield 131, 3), (155, .iconst 1, 1), (156, .isub, 1), (157, .putfield 131, 3), (160, .aload_n 0, 1), (161, .iconst 2, 1), (162, .iload_n 2, 1), (163, .invokevirtual 249, 3), (166, .aload_n 0, 1), (167, .aload_n 0, 1), (168, .getfield 125, 3), (171, .iconst 1, 1), (172, .iadd, 1), (173, .invokevirtual 252, 3), (176, .ireturn, 1)]
def t_X9_get : List (Nat × Instr × Nat) := [(0, .aload_n 0, 1), (1, .aload_n 0, 1), (2, .iconst 0, 1), (3, .invokevirtual 255, 3), (6, .aload_n 0, 1), (7, .iconst 0, 1), (8, .invokevirtual 258, 3), (11, .iload_n 1, 1), (12, .invokevirtual 268, 3), (15, .istore_n 2, 1), (16, .iload_n 2, 1), (17, .ifCond .ge 9, 3), (20, .aload_n 0, 1), (21, .iconst 2, 1), (22, .invokevirtual 246, 3), (25, .ireturn, 1), (26, .aload_n 0, 1), (27, .aload_n 0, 1), (28, .getfield 125, 3), (31, .aload_n 0, 1), (32, .iconst 0, 1), (33, .invokevirtual 255, 3), (36, .aload_n 0, 1), (37, .iconst 0, 1), (38, .invokevirtual 258, 3), (41, .invokevirtual 272, 3), (44, .aload_n 0, 1), (45, .dup, 1), (46, .getfield 131, 3), (49, .iconst 1, 1), (50, .isub, 1), (51, .putfield 131, 3), (54, .aload_n 0, 1), (55, .aload_n 0, 1), (56, .getfield 84, 3), (59, .iload_n 2, 1), (60, .iaload, 1), (61, .aload_n 0, 1), (62, .getfield 87, 3), (65, .iload_n 2, 1), (66, .iaload, 1), (67, .invokevirtual 249, 3), (70, .aload_n 0, 1), (71, .aload_n 0, 1), (72, .getfield 125, 3), (75, .iconst 1, 1), (76, .iadd, 1), (77, .invokevirtual 252, 3), (80, .ireturn, 1)]
def t_X9_set : List (Nat × Instr × Nat) := [(0, .aload_n 0, 1), (1, .iconst 1, 1), (2, .invokevirtual 255, 3), (5, .iconst 2, 1), (6, .if_icmp .eq 9, 3), (9, .aload_n 0, 1), (10, .iconst 3, 1), (11, .invokevirtual 246, 3), (14, .ireturn, 1), (15, .aload_n 0, 1), (16, .iconst 1, 1), (17, .invokevirtual 258, 3), (20, .istore_n 2, 1), (21, .aload_n 0, 1), (22, .iload_n 2, 1), (23, .iload_n 1, 1), (24, .invokevirtual 234, 3), (27, .istore_n 3, 1), (28, .iload_n 3, 1), (29, .ifCond .ge 70, 3), (32, .aload_n 0, 1), (33, .getfield 74, 3), (36, .iload_n 2, 1), (37, .iaload, 1), (38, .bipush 40, 2), (40, .if_icmp .ne 10, 3), (43, .aload_n 0, 1), (44, .bipush 10, 2), (46, .invokevirtual 246, 3), (49, .ireturn, 1), (50, .aload_n 0, 1), (51, .iload_n 2, 1), (52, .invokevirtual 276, 3), (55, .ifCond .ne 10, 3), (58, .aload_n 0, 1), (59, .bipush 8, 2), (61, .invokevirtual 246, 3), (64, .ireturn, 1), (65, .bipush 40, 2), (67, .iload_n 2, 1), (68, .imul, 1), (69, .aload_n 0, 1), (70, .getfield 74, 3), (73, .iload_n 2, 1), (74, .iaload, 1), (75, .iadd, 1), (76, .istore_n 3, 1), (77, .aload_n 0, 1), (78, .getfield 74, 3), (81, .iload_n 2, 1), (82, .dup2, 1), (83, .iaload, 1), (84, .iconst 1, 1), (85, .iadd, 1), (86, .iastore, 1), (87, .aload_n 0, 1), (88, .getfield 81, 3), (91, .iload_n 3, 1), (92, .iload_n 1, 1), (93, .iastore, 1), (94, .aload_n 0, 1), (95, .iload_n 2, 1), (96, .invokevirtual 279, 3), (99, .aload_n 0, 1), (100, .getfield 84, 3), (103, .iload_n 3, 1), (104, .aload_n 0, 1), (105, .iconst 0, 1), (106, .invokevirtual 255, 3), (109, .iastore, 1), (110, .aload_n 0, 1), (111, .getfield 87, 3), (114, .iload_n 3, 1), (115, .aload_n 0, 1), (116, .iconst 0, 1), (117, .invokevirtual 258, 3), (120, .iastore, 1), (121, .aload_n 0, 1), (122, .aload_n 0, 1), (123, .getfield 131, 3), (126, .iconst 2, 1), (127, .isub, 1), (128, .putfield 131, 3), (131, .aload_n 0, 1), (132, .aload_n 0, 1), (133, .getfield 125, 3), (136, .iconst 1, 1), (137, .iadd, 1), (138, .invokevirtual 252, 3), (141, .ireturn, 1)]
def t_X9_drop : List (Nat × Instr × Nat) := [(0, .aload_n 0, 1), (1, .iconst 0, 1), (2, .invokevirtual 255, 3), (5, .iconst 2, 1), (6, .if_icmp .eq 9, 3), (9, .aload_n 0, 1), (10, .iconst 3, 1), (11, .invokevirtual 246, 3), (14, .ireturn, 1), (15, .aload_n 0, 1), (16, .iconst 0, 1), (17, .invokevirtual 258, 3), (20, .istore_n 2, 1), (21, .aload_n 0, 1), (22, .iload_n 2, 1), (23, .iload_n 1, 1), (24, .invokevirtual 234, 3), (27, .istore_n 3, 1), (28, .iload_n 3, 1), (29, .ifCond .ge 9, 3), (32, .aload_n 0, 1), (33, .iconst 2, 1), (34, .invokevirtual 246, 3), (37, .ireturn, 1), (38, .aload_n 0, 1), (39, .getfield 74, 3), (42, .iload_n 2, 1), (43, .dup2, 1), (44, .iaload, 1), (45, .iconst 1, 1), (46, .isub, 1), (47, .iastore, 1), (48, .iload_n 3, 1), (49, .istore 4, 2), (51, .iload 4, 2), (53, .bipush 40, 2), (55, .iload_n 2, 1), (56, .imul, 1), (57, .aload_n 0, 1), (58, .getfield 74, 3), (61, .iload_n 2, 1), (62, .iaload, 1), (63, .iadd, 1), (64, .if_icmp .ge 57, 3), (67, .aload_n 0, 1), (68, .getfield 81, 3), (71, .iload 4, 2), (73, .aload_n 0, 1), (74, .getfield 81, 3), (77, .iload 4, 2), (79, .iconst 1, 1), (80, .iadd, 1), (81, .iaload, 1), (82, .iastore, 1), (83, .aload_n 0, 1), (84, .getfield 84, 3), (87, .iload 4, 2), (89, .aload_n 0, 1), (90, .getfield 84, 3), (93, .iload 4, 2), (95, .iconst 1, 1), (96, .iadd, 1), (97, .iaload, 1), (98, .iastore, 1), (99, .aload_n 0, 1), (100, .getfield 87, 3), (103, .iload 4, 2), (105, .aload_n 0, 1), (106, .getfield 87, 3), (109, .iload 4, 2), (111, .iconst 1, 1), (112, .iadd, 1), (113, .iaload, 1), (114, .iastore, 1), (115, .iinc 4 1, 3), (118, .goto (-67), 3), (121, .aload_n 0, 1), (122, .getfield 67, 3), (125, .iload_n 2, 1), (126, .baload, 1), (127, .ifCond .eq 16, 3), (130, .aload_n 0, 1), (131, .dup, 1), (132, .getfield 146, 3), (135, .iconst 1, 1), (136, .isub, 1), (137, .putfield 146, 3), (140, .goto 13, 3), (143, .aload_n 0, 1), (144, .dup, 1), (145, .getfield 143, 3), (148, .iconst 1, 1), (149, .isub, 1), (150, .putfield 143, 3), (153, .aload_n 0, 1), (154, .iload_n 2, 1), (155, .invokevirtual 279, 3), (158, .aload_n 0, 1), (159, .dup, 1), (160, .getfield 131, 3), (163, .iconst 1, 1), (164, .isub, 1), (165, .putfield 131, 3), (168, .aload_n 0, 1), (169, .aload_n 0, 1), (170, .getfield 125, 3), (173, .iconst 1, 1), (174, .iadd, 1), (175, .invokevirtual 252, 3), (178, .ireturn, 1)]
def t_X9_parent : List (Nat × Instr × Nat) := [(0, .aload_n 0, 1), (1, .iconst 0, 1), (2, .invokevirtual 255, 3), (5, .iconst 2, 1), (6, .if_icmp .eq 9, 3), (9, .aload_n 0, 1), (10, .iconst 3, 1), (11, .invokevirtual 246, 3), (14, .ireturn, 1), (15, .aload_n 0, 1), (16, .getfield 71, 3), (19, .aload_n 0, 1), (20, .iconst 0, 1), (21, .invokevirtual 258, 3), (24, .iaload, 1), (25, .istore_n 1, 1), (26, .aload_n 0, 1), (27, .dup, 1), (28, .getfield 131, 3), (31, .iconst 1, 1), (32, .isub, 1), (33, .putfield 131, 3), (36, .aload_n 0, 1), (37, .iload_n 1, 1), (38, .ifCond .ge 7, 3), (41, .iconst 0, 1), (42, .goto 4, 3), (45, .iconst 2, 1), (46, .iload_n 1, 1), (47, .ifCond .ge 7, 3), (50, .iconst 0, 1), (51, .goto 4, 3), (54, .iload_n 1, 1), (55, .invokevirtual 249, 3), (58, .aload_n 0, 1), (59, .aload_n 0, 1), (60, .getfield 125, 3), (63, .iconst 1, 1), (64, .iadd, 1), (65, .invokevirtual 252, 3), (68, .ireturn, 1)]
def t_X9_adopt : List (Nat × Instr × Nat) := [(0, .aload_n 0, 1), (1, .iconst 1, 1), (2, .invokevirtual 255, 3), (5, .iconst 2, 1), (6, .if_icmp .ne 20, 3), (9, .aload_n 0, 1), (10, .iconst 0, 1), (11, .invokevirtual 255, 3), (14, .iconst 2, 1), (15, .if_icmp .eq 17, 3), (18, .aload_n 0, 1), (19, .iconst 0, 1), (20, .invokevirtual 255, 3), (23, .ifCond .eq 9, 3), (26, .aload_n 0, 1), (27, .iconst 3, 1), (28, .invokevirtual 246, 3), (31, .ireturn, 1), (32, .aload_n 0, 1), (33, .iconst 1, 1), (34, .invokevirtual 258, 3), (37, .istore_n 1, 1), (38, .aload_n 0, 1), (39, .iconst 0, 1), (40, .invokevirtual 255, 3), (43, .iconst 2, 1), (44, .if_icmp .ne 11, 3), (47, .aload_n 0, 1), (48, .iconst 0, 1), (49, .invokevirtual 258, 3), (52, .goto 4, 3), (55, .iconst (-1), 1), (56, .istore_n 2, 1), (57, .iload_n 2, 1), (58, .istore_n 3, 1), (59, .iload_n 3, 1), (60, .ifCond .lt 25, 3), (63, .iload_n 3, 1), (64, .iload_n 1, 1), (65, .if_icmp .ne 10, 3), (68, .aload_n 0, 1), (69, .bipush 9, 2), (71, .invokevirtual 246, 3), (74, .ireturn, 1), (75, .aload_n 0, 1), (76, .getfield 71, 3), (79, .iload_n 3, 1), (80, .iaload, 1), (81, .istore_n 3, 1), (82, .goto (-23), 3), (85, .aload_n 0, 1), (86, .getfield 71, 3), (89, .iload_n 1, 1), (90, .iaload, 1), (91, .iload_n 2, 1), (92, .if_icmp .eq 15, 3), (95, .aload_n 0, 1), (96, .getfield 71, 3), (99, .iload_n 1, 1), (100, .iload_n 2, 1), (101, .iastore, 1), (102, .aload_n 0, 1), (103, .iload_n 1, 1), (104, .invokevirtual 279, 3), (107, .aload_n 0, 1), (108, .aload_n 0, 1), (109, .getfield 131, 3), (112, .iconst 2, 1), (113, .isub, 1), (114, .putfield 131, 3), (117, .aload_n 0, 1), (118, .aload_n 0, 1), (119, .getfield 125, 3), (122, .iconst 1, 1), (123, .iadd, 1), (124, .invokevirtual 252, 3), (127, .ireturn, 1)]
def t_X9_proto : List (Nat × Instr × Nat) := [(0, .aload_n 0, 1), (1, .iconst 0, 1), (2, .invokevirtual 255, 3), (5, .iconst 2, 1), (6, .if_icmp .eq 17, 3), (9, .aload_n 0, 1), (10, .iconst 0, 1), (11, .invokevirtual 255, 3), (14, .ifCond .eq 9, 3), (17, .aload_n 0, 1), (18, .iconst 3, 1), (19, .invokevirtual 246, 3), (22, .ireturn, 1), (23, .aload_n 0, 1), (24, .getfield 55, 3), (27, .iload_n 1, 1), (28, .aload_n 0, 1), (29, .iconst 0, 1), (30, .invokevirtual 255, 3), (33, .iconst 2, 1), (34, .if_icmp .ne 11, 3), (37, .aload_n 0, 1), (38, .iconst 0, 1), (39, .invokevirtual 258, 3), (42, .goto 4, 3), (45, .iconst (-1), 1), (46, .iastore, 1), (47, .aload_n 0, 1), (48, .dup, 1), (49, .getfield 131, 3), (52, .iconst 1, 1), (53, .isub, 1), (54, .putfield 131, 3), (57, .aload_n 0, 1), (58, .aload_n 0, 1), (59, .getfield 125, 3), (62, .iconst 1, 1), (63, .iadd, 1), (64, .invokevirtual 252, 3), (67, .ireturn, 1)]
def t_X9_send : List (Nat × Instr × Nat) := [(0, .aload_n 0, 1), (1, .iload_n 2, 1), (2, .invokevirtual 255, 3), (5, .istore_n 3, 1), (6, .aload_n 0, 1), (7, .iload_n 2, 1), (8, .invokevirtual 258, 3), (11, .istore 4, 2), (13, .aload_n 0, 1), (14, .iload_n 3, 1), (15, .iload 4, 2), (17, .iload_n 1, 1), (18, .invokevirtual 268, 3), (21, .istore 5, 2), (23, .iload 5, 2), (25, .ifCond .ge 9, 3), (28, .aload_n 0, 1), (29, .iconst 2, 1), (30, .invokevirtual 246, 3), (33, .ireturn, 1), (34, .aload_n 0, 1), (35, .getfield 84, 3), (38, .iload 5, 2), (40, .iaload, 1), (41, .iconst 3, 1), (42, .if_icmp .eq 64, 3), (45, .iload_n 2, 1), (46, .ifCond .le 10, 3), (49, .aload_n 0, 1), (50, .bipush 7, 2), (52, .invokevirtual 246, 3), (55, .ireturn, 1), (56, .aload_n 0, 1), (57, .aload_n 0, 1), (58, .getfield 125, 3), (61, .iload_n 3, 1), (62, .iload 4, 2), (64, .invokevirtual 272, 3), (67, .aload_n 0, 1), (68, .dup, 1), (69, .getfield 131, 3), (72, .iconst 1, 1), (73, .isub, 1), (74, .putfield 131, 3), (77, .aload_n 0, 1), (78, .aload_n 0, 1), (79, .getfield 84, 3), (82, .iload 5, 2), (84, .iaload, 1), (85, .aload_n 0, 1), (86, .getfield 87, 3), (89, .iload 5, 2), (91, .iaload, 1), (92, .invokevirtual 249, 3), (95, .aload_n 0, 1), (96, .aload_n 0, 1), (97, .getfield 125, 3), (100, .iconst 1, 1), (101, .iadd, 1), (102, .invokevirtual 252, 3), (105, .ireturn, 1), (106, .aload_n 0, 1), (107, .getfield 87, 3), (110, .iload 5, 2), (112, .iaload, 1), (113, .istore 6, 2), (115, .iload 6, 2), (117, .aload_n 0, 1), (118, .getfield 164, 3), (121, .if_icmp .ge 26, 3), (124, .aload_n 0, 1), (125, .getfield 7, 3), (128, .iload 6, 2), (130, .iaload, 1), (131, .bipush 34, 2), (133, .if_icmp .ne 14, 3), (136, .aload_n 0, 1), (137, .getfield 13, 3), (140, .iload 6, 2), (142, .iaload, 1), (143, .iload_n 2, 1), (144, .if_icmp .eq 10, 3), (147, .aload_n 0, 1), (148, .bipush 7, 2), (150, .invokevirtual 246, 3), (153, .ireturn, 1), (154, .aload_n 0, 1), (155, .getfield 134, 3), (158, .sipush 200, 3), (161, .if_icmp .ne 9, 3), (164, .aload_n 0, 1), (165, .iconst 5, 1), (166, .invokevirtual 246, 3), (169, .ireturn, 1), (170, .aload_n 0, 1), (171, .aload_n 0, 1), (172, .getfield 125, 3), (175, .iload_n 3, 1), (176, .iload 4, 2), (178, .invokevirtual 272, 3), (181, .aload_n 0, 1), (182, .getfield 134, 3), (185, .istore 7, 2), (187, .aload_n 0, 1), (188, .getfield 40, 3), (191, .iload 7, 2), (193, .iload_n 2, 1), (194, .aload_n 0, 1), (195, .getfield 16, 3), (198, .iload 6, 2), (200, .iaload, 1), (201, .iadd, 1), (202, .iastore, 1), (203, .iconst 0, 1), (204, .istore 8, 2), (206, .iload 8, 2), (208, .aload_n 0, 1), (209, .getfield 40, 3), (212, .iload 7, 2), (214, .iaload, 1), (215, .if_icmp .ge 75, 3), (218, .aload_n 0, 1), (219, .getfield 43, 3), (222, .bipush 16, 2), (224, .iload 7, 2), (226, .imul, 1), (227, .iload 8, 2), (229, .iadd, 1), (230, .iload 8, 2), (232, .iload_n 2, 1), (233, .if_icmp .ge 16, 3), (236, .aload_n 0, 1), (237, .iload_n 2, 1), (238, .iconst 1, 1), (239, .isub, 1), (240, .iload 8, 2), (242, .isub, 1), (243, .invokevirtual 255, 3), (246, .goto 4, 3), (249, .iconst 0, 1), (250, .iastore, 1), (251, .aload_n 0, 1), (252, .getfield 46, 3), (255, .bipush 16, 2), (257, .iload 7, 2), (259, .imul, 1), (260, .iload 8, 2), (262, .iadd, 1), (263, .iload 8, 2), (265, .iload_n 2, 1), (266, .if_icmp .ge 16, 3), (269, .aload_n 0, 1), (270, .iload_n 2, 1), (271, .iconst 1, 1), (272, .isub, 1), (273, .iload 8, 2), (275, .isub, 1), (276, .invokevirtual 258, 3), (279, .goto 4, 3), (282, .iconst 0, 1), (283, .iastore, 1), (284, .iinc 8 1, 3), (287, .goto (-81), 3), (290, .aload_n 0, 1), (291, .getfield 34, 3), (294, .iload 7, 2), (296, .iload_n 3, 1), (297, .iastore, 1), (298, .aload_n 0, 1), (299, .getfield 37, 3), (302, .iload 7, 2), (304, .iload 4, 2), (306, .iastore, 1), (307, .aload_n 0, 1), (308, .getfield 31, 3), (311, .iload 7, 2), (313, .aload_n 0, 1), (314, .getfield 125, 3), (317, .iconst 1, 1), (318, .iadd, 1), (319, .iastore, 1), (320, .aload_n 0, 1), (321, .aload_n 0, 1), (322, .getfield 131, 3), (325, .iload_n 2, 1), (326, .isub, 1), (327, .iconst 1, 1), (328, .isub, 1), (329, .putfield 131, 3), (332, .aload_n 0, 1), (333, .getfield 28, 3), (336, .iload 7, 2), (338, .aload_n 0, 1), (339, .getfield 131, 3), (342, .iastore, 1), (343, .aload_n 0, 1), (344, .dup, 1), (345, .getfield 134, 3), (348, .iconst 1, 1), (349, .iadd, 1), (350, .putfield 134, 3), (353, .aload_n 0, 1), (354, .iload 6, 2), (356, .iconst 1, 1), (357, .iadd, 1), (358, .invokevirtual 252, 3), (361, .ireturn, 1)]
def t_X9_giveBack : List (Nat × Instr × Nat) := [(0, .aload_n 0, 1), (1, .getfield 134, 3), (4, .iconst 1, 1), (5, .if_icmp .ne 19, 3), (8, .aload_n 0, 1), (9, .dup, 1), (10, .getfield 128, 3), (13, .iconst 1, 1), (14, .iadd, 1), (15, .putfield 128, 3), (18, .aload_n 0, 1), (19, .iconst 1, 1), (20, .invokevirtual 246, 3), (23, .ireturn, 1), (24, .aload_n 0, 1), (25, .iconst 0, 1), (26, .invokevirtual 255, 3), (29, .istore_n 1, 1), (30, .aload_n 0, 1), (31, .iconst 0, 1), (32, .invokevirtual 258, 3), (35, .istore_n 2, 1), (36, .aload_n 0, 1), (37, .dup, 1), (38, .getfield 134, 3), (41, .iconst 1, 1), (42, .isub, 1), (43, .putfield 134, 3), (46, .aload_n 0, 1), (47, .aload_n 0, 1), (48, .getfield 28, 3), (51, .aload_n 0, 1), (52, .getfield 134, 3), (55, .iaload, 1), (56, .putfield 131, 3), (59, .aload_n 0, 1), (60, .iload_n 1, 1), (61, .iload_n 2, 1), (62, .invokevirtual 249, 3), (65, .aload_n 0, 1), (66, .aload_n 0, 1), (67, .getfield 31, 3), (70, .aload_n 0, 1), (71, .getfield 134, 3), (74, .iaload, 1), (75, .invokevirtual 252, 3), (78, .ireturn, 1)]
def t_X9_print : List (Nat × Instr × Nat) := [(0, .aload_n 0, 1), (1, .getfield 137, 3), (4, .sipush 1000, 3), (7, .if_icmp .ge 53, 3), (10, .aload_n 0, 1), (11, .getfield 58, 3), (14, .aload_n 0, 1), (15, .getfield 137, 3), (18, .aload_n 0, 1), (19, .iconst 0, 1), (20, .invokevirtual 255, 3), (23, .iastore, 1), (24, .aload_n 0, 1), (25, .getfield 61, 3), (28, .aload_n 0, 1), (29, .getfield 137, 3), (32, .aload_n 0, 1), (33, .iconst 0, 1), (34, .invokevirtual 255, 3), (37, .iconst 2, 1), (38, .if_icmp .ne 16, 3), (41, .aload_n 0, 1), (42, .getfield 64, 3), (45, .aload_n 0, 1), (46, .iconst 0, 1), (47, .invokevirtual 258, 3), (50, .iaload, 1), (51, .goto 8, 3), (54, .aload_n 0, 1), (55, .iconst 0, 1), (56, .invokevirtual 258, 3), (59, .iastore, 1), (60, .aload_n 0, 1), (61, .dup, 1), (62, .getfield 137, 3), (65, .iconst 1, 1), (66, .iadd, 1), (67, .putfield 137, 3), (70, .aload_n 0, 1), (71, .dup, 1), (72, .getfield 131, 3), (75, .iconst 1, 1), (76, .isub, 1), (77, .putfield 131, 3), (80, .aload_n 0, 1), (81, .aload_n 0, 1), (82, .getfield 125, 3), (85, .iconst 1, 1), (86, .iadd, 1), (87, .invokevirtual 252, 3), (90, .ireturn, 1)]
def t_X9_local : List (Nat × Instr × Nat) := [(0, .iload_n 1, 1), (1, .aload_n 0, 1), (2, .getfield 40, 3), (5, .aload_n 0, 1), (6, .getfield 134, 3), (9, .iconst 1, 1), (10, .isub, 1), (11, .iaload, 1), (12, .if_icmp .lt 9, 3), (15, .aload_n 0, 1), (16, .iconst 5, 1), (17, .invokevirtual 246, 3), (20, .ireturn, 1), (21, .aload_n 0, 1), (22, .aload_n 0, 1), (23, .getfield 43, 3), (26, .bipush 16, 2), (28, .aload_n 0, 1), (29, .getfield 134, 3), (32, .iconst 1, 1), (33, .isub, 1), (34, .imul, 1), (35, .iload_n 1, 1), (36, .iadd, 1), (37, .iaload, 1), (38, .aload_n 0, 1), (39, .getfield 46, 3), (42, .bipush 16, 2), (44, .aload_n 0, 1), (45, .getfield 134, 3), (48, .iconst 1, 1), (49, .isub, 1), (50, .imul, 1), (51, .iload_n 1, 1), (52, .iadd, 1), (53, .iaload, 1), (54, .invokevirtual 282, 3), (57, .ireturn, 1)]
def t_X9_store : List (Nat × Instr × Nat) := [(0, .iload_n 1, 1), (1, .aload_n 0, 1), (2, .getfield 40, 3), (5, .aload_n 0, 1), (6, .getfield 134, 3), (9, .iconst 1, 1), (10, .isub, 1), (11, .iaload, 1), (12, .if_icmp .lt 9, 3), (15, .aload_n 0, 1), (16, .iconst 5, 1), (17, .invokevirtual 246, 3), (20, .ireturn, 1), (21, .aload_n 0, 1), (22, .dup, 1), (23, .getfield 131, 3), (26, .iconst 1, 1), (27, .isub, 1), (28, .putfield 131, 3), (31, .aload_n 0, 1), (32, .getfield 43, 3), (35, .bipush 16, 2), (37, .aload_n 0, 1), (38, .getfield 134, 3), (41, .iconst 1, 1), (42, .isub, 1), (43, .imul, 1), (44, .iload_n 1, 1), (45, .iadd, 1), (46, .aload_n 0, 1), (47, .getfield 22, 3), (50, .aload_n 0, 1), (51, .getfield 131, 3), (54, .iaload, 1), (55, .iastore, 1), (56, .aload_n 0, 1), (57, .getfield 46, 3), (60, .bipush 16, 2), (62, .aload_n 0, 1), (63, .getfield 134, 3), (66, .iconst 1, 1), (67, .isub, 1), (68, .imul, 1), (69, .iload_n 1, 1), (70, .iadd, 1), (71, .aload_n 0, 1), (72, .getfield 25, 3), (75, .aload_n 0, 1), (76, .getfield 131, 3), (79, .iaload, 1), (80, .iastore, 1), (81, .aload_n 0, 1), (82, .aload_n 0, 1), (83, .getfield 125, 3), (86, .iconst 1, 1), (87, .iadd, 1), (88, .invokevirtual 252, 3), (91, .ireturn, 1)]
def t_X9_keep : List (Nat × Instr × Nat) := [(0, .aload_n 0, 1), (1, .dup, 1), (2, .getfield 131, 3), (5, .iconst 1, 1), (6, .isub, 1), (7, .putfield 131, 3), (10, .aload_n 0, 1), (11, .getfield 49, 3), (14, .iload_n 1, 1), (15, .aload_n 0, 1), (16, .getfield 22, 3), (19, .aload_n 0, 1), (20, .getfield 131, 3), (23, .iaload, 1), (24, .iastore, 1), (25, .aload_n 0, 1), (26, .getfield 52, 3), (29, .iload_n 1, 1), (30, .aload_n 0, 1), (31, .getfield 25, 3), (34, .aload_n 0, 1), (35, .getfield 131, 3), (38, .iaload, 1), (39, .iastore, 1), (40, .aload_n 0, 1), (41, .aload_n 0, 1), (42, .getfield 125, 3), (45, .iconst 1, 1), (46, .iadd, 1), (47, .invokevirtual 252, 3), (50, .ireturn, 1)]
def t_X9_isFalse : List (Nat × Instr × Nat) := [(0, .aload_n 0, 1), (1, .iconst 0, 1), (2, .invokevirtual 255, 3), (5, .ifCond .eq 20, 3), (8, .aload_n 0, 1), (9, .iconst 0, 1), (10, .invokevirtual 255, 3), (13, .iconst 1, 1), (14, .if_icmp .ne 15, 3), (17, .aload_n 0, 1), (18, .iconst 0, 1), (19, .invokevirtual 258, 3), (22, .ifCond .ne 7, 3), (25, .iconst 1, 1), (26, .goto 4, 3), (29, .iconst 0, 1), (30, .ireturn, 1)]
def t_X9_unless : List (Nat × Instr × Nat) := [(0, .aload_n 0, 1), (1, .invokevirtual 285, 3), (4, .istore_n 2, 1), (5, .aload_n 0, 1), (6, .dup, 1), (7, .getfield 131, 3), (10, .iconst 1, 1), (11, .isub, 1), (12, .putfield 131, 3), (15, .aload_n 0, 1), (16, .iload_n 2, 1), (17, .ifCond .eq 12, 3), (20, .aload_n 0, 1), (21, .getfield 19, 3), (24, .iload_n 1, 1), (25, .iaload, 1), (26, .goto 9, 3), (29, .aload_n 0, 1), (30, .getfield 125, 3), (33, .iconst 1, 1), (34, .iadd, 1), (35, .invokevirtual 252, 3), (38, .ireturn, 1)]
def t_X9_swap : List (Nat × Instr × Nat) := [(0, .aload_n 0, 1), (1, .iconst 0, 1), (2, .invokevirtual 255, 3), (5, .istore_n 1, 1), (6, .aload_n 0, 1), (7, .iconst 0, 1), (8, .invokevirtual 258, 3), (11, .istore_n 2, 1), (12, .aload_n 0, 1), (13, .getfield 22, 3), (16, .aload_n 0, 1), (17, .getfield 131, 3), (20, .iconst 1, 1), (21, .isub, 1), (22, .aload_n 0, 1), (23, .getfield 22, 3), (26, .aload_n 0, 1), (27, .getfield 131, 3), (30, .iconst 2, 1), (31, .isub, 1), (32, .iaload, 1), (33, .iastore, 1), (34, .aload_n 0, 1), (35, .getfield 25, 3), (38, .aload_n 0, 1), (39, .getfield 131, 3), (42, .iconst 1, 1), (43, .isub, 1), (44, .aload_n 0, 1), (45, .getfield 25, 3), (48, .aload_n 0, 1), (49, .getfield 131, 3), (52, .iconst 2, 1), (53, .isub, 1), (54, .iaload, 1), (55, .iastore, 1), (56, .aload_n 0, 1), (57, .getfield 22, 3), (60, .aload_n 0, 1), (61, .getfield 131, 3), (64, .iconst 2, 1), (65, .isub, 1), (66, .iload_n 1, 1), (67, .iastore, 1), (68, .aload_n 0, 1), (69, .getfield 25, 3), (72, .aload_n 0, 1), (73, .getfield 131, 3), (76, .iconst 2, 1), (77, .isub, 1), (78, .iload_n 2, 1), (79, .iastore, 1), (80, .aload_n 0, 1), (81, .aload_n 0, 1), (82, .getfield 125, 3), (85, .iconst 1, 1), (86, .iadd, 1), (87, .invokevirtual 252, 3), (90, .ireturn, 1)]
def t_X9_answer : List (Nat × Instr × Nat) := [(0, .aload_n 0, 1), (1, .aload_n 0, 1), (2, .getfield 131, 3), (5, .iload_n 2, 1), (6, .isub, 1), (7, .putfield 131, 3), (10, .aload_n 0, 1), (11, .iconst 1, 1), (12, .iload_n 1, 1), (13, .ifCond .eq 7, 3), (16, .iconst 1, 1), (17, .goto 4, 3), (20, .iconst 0, 1), (21, .invokevirtual 249, 3), (24, .aload_n 0, 1), (25, .aload_n 0, 1), (26, .getfield 125, 3), (29, .iconst 1, 1), (30, .iadd, 1), (31, .invokevirtual 252, 3), (34, .ireturn, 1)]
def t_X9_simple : List (Nat × Instr × Nat) := [(0, .iload_n 1, 1), (1, .tableswitch 231 1 18 #[87, 94, 101, 122, 137, 231, 231, 231, 231, 231, 231, 142, 179, 190, 196, 202, 208, 225], 87), (88, .aload_n 0, 1), (89, .iconst 1, 1), (90, .iload_n 2, 1), (91, .invokevirtual 282, 3), (94, .ireturn, 1), (95, .aload_n 0, 1), (96, .iconst 0, 1), (97, .iconst 0, 1), (98, .invokevirtual 282, 3), (101, .ireturn, 1), (102, .aload_n 0, 1), (103, .dup, 1), (104, .getfield 131, 3), (107, .iconst 1, 1), (108, .isub, 1), (109, .putfield 131, 3), (112, .aload_n 0, 1), (113, .aload_n 0, 1), (114, .getfield 125, 3), (117, .iconst 1, 1), (118, .iadd, 1), (119, .invokevirtual 252, 3), (122, .ireturn, 1), (123, .aload_n 0, 1), (124, .aload_n 0, 1), (125, .iconst 0, 1), (126, .invokevirtual 255, 3), (129, .aload_n 0, 1), (130, .iconst 0, 1), (131, .invokevirtual 258, 3), (134, .invokevirtual 282, 3), (137, .ireturn, 1), (138, .aload_n 0, 1), (139, .invokevirtual 288, 3), (142, .ireturn, 1), (143, .aload_n 0, 1), (144, .aload_n 0, 1), (145, .iconst 0, 1), (146, .invokevirtual 255, 3), (149, .aload_n 0, 1), (150, .iconst 1, 1), (151, .invokevirtual 255, 3), (154, .if_icmp .ne 20, 3), (157, .aload_n 0, 1), (158, .iconst 0, 1), (159, .invokevirtual 258, 3), (162, .aload_n 0, 1), (163, .iconst 1, 1), (164, .invokevirtual 258, 3), (167, .if_icmp .ne 7, 3), (170, .iconst 1, 1), (171, .goto 4, 3), (174, .iconst 0, 1), (175, .iconst 2, 1), (176, .invokevirtual 291, 3), (179, .ireturn, 1), (180, .aload_n 0, 1), (181, .aload_n 0, 1), (182, .getfield 19, 3), (185, .iload_n 2, 1), (186, .iaload, 1), (187, .invokevirtual 252, 3), (190, .ireturn, 1), (191, .aload_n 0, 1), (192, .iload_n 2, 1), (193, .invokevirtual 295, 3), (196, .ireturn, 1), (197, .aload_n 0, 1), (198, .iload_n 2, 1), (199, .invokevirtual 298, 3), (202, .ireturn, 1), (203, .aload_n 0, 1), (204, .iload_n 2, 1), (205, .invokevirtual 301, 3), (208, .ireturn, 1), (209, .aload_n 0, 1), (210, .aload_n 0, 1), (211, .getfield 49, 3), (214, .iload_n 2, 1), (215, .iaload, 1), (216, .aload_n 0, 1), (217, .getfield 52, 3), (220, .iload_n 2, 1), (221, .iaload, 1), (222, .invokevirtual 282, 3), (225, .ireturn, 1), (226, .aload_n 0, 1), (227, .iload_n 2, 1), (228, .invokevirtual 304, 3), (231, .ireturn, 1), (232, .aload_n 0, 1), (233, .iload_n 1, 1), (234, .invokevirtual 307, 3), (237, .ireturn, 1)]
def t_X9_oneStep : List (Nat × Instr × Nat) := [(0, .aload_n 0, 1), (1, .getfield 125, 3), (4, .aload_n 0, 1), (5, .getfield 164, 3), (8, .if_icmp .ge 15, 3), (11, .aload_n 0, 1), (12, .getfield 7, 3), (15, .aload_n 0, 1), (16, .getfield 125, 3), (19, .iaload, 1), (20, .ifCond .ne 19, 3), (23, .aload_n 0, 1), (24, .dup, 1), (25, .getfield 128, 3), (28, .iconst 1, 1), (29, .iadd, 1), (30, .putfield 128, 3), (33, .aload_n 0, 1), (34, .iconst 1, 1), (35, .invokevirtual 246, 3), (38, .ireturn, 1), (39, .aload_n 0, 1), (40, .getfield 7, 3), (43, .aload_n 0, 1), (44, .getfield 125, 3), (47, .iaload, 1), (48, .istore_n 1, 1), (49, .aload_n 0, 1), (50, .getfield 13, 3), (53, .aload_n 0, 1), (54, .getfield 125, 3), (57, .iaload, 1), (58, .istore_n 2, 1), (59, .aload_n 0, 1), (60, .getfield 131, 3), (63, .aload_n 0, 1), (64, .getfield 28, 3), (67, .aload_n 0, 1), (68, .getfield 134, 3), (71, .iconst 1, 1), (72, .isub, 1), (73, .iaload, 1), (74, .isub, 1), (75, .iload_n 1, 1), (76, .aload_n 0, 1), (77, .getfield 16, 3), (80, .aload_n 0, 1), (81, .getfield 125, 3), (84, .iaload, 1), (85, .invokestatic 310, 3), (88, .if_icmp .ge 9, 3), (91, .aload_n 0, 1), (92, .iconst 5, 1), (93, .invokevirtual 246, 3), (96, .ireturn, 1), (97, .iload_n 1, 1), (98, .bipush 19, 2), (100, .if_icmp .ge 10, 3), (103, .aload_n 0, 1), (104, .iload_n 1, 1), (105, .iload_n 2, 1), (106, .invokevirtual 313, 3), (109, .ireturn, 1), (110, .iload_n 1, 1), (111, .tableswitch 206 19 32 #[69, 74, 79, 85, 91, 97, 126, 131, 136, 142, 154, 169, 196, 201], 69), (180, .aload_n 0, 1), (181, .invokevirtual 316, 3), (184, .ireturn, 1), (185, .aload_n 0, 1), (186, .invokevirtual 319, 3), (189, .ireturn, 1), (190, .aload_n 0, 1), (191, .iload_n 2, 1), (192, .invokevirtual 322, 3), (195, .ireturn, 1), (196, .aload_n 0, 1), (197, .iload_n 2, 1), (198, .invokevirtual 325, 3), (201, .ireturn, 1), (202, .aload_n 0, 1), (203, .iload_n 2, 1), (204, .invokevirtual 328, 3), (207, .ireturn, 1), (208, .aload_n 0, 1), (209, .aload_n 0, 1), (210, .aload_n 0, 1), (211, .iconst 0, 1), (212, .invokevirtual 255, 3), (215, .aload_n 0, 1), (216, .iconst 0, 1), (217, .invokevirtual 258, 3), (220, .iload_n 2, 1), (221, .invokevirtual 268, 3), (224, .ifCond .lt 7, 3), (227, .iconst 1, 1), (228, .goto 4, 3), (231, .iconst 0, 1), (232, .iconst 1, 1), (233, .invokevirtual 291, 3), (236, .ireturn, 1), (237, .aload_n 0, 1), (238, .invokevirtual 331, 3), (241, .ireturn, 1), (242, .aload_n 0, 1), (243, .invokevirtual 334, 3), (246, .ireturn, 1), (247, .aload_n 0, 1), (248, .iload_n 2, 1), (249, .invokevirtual 337, 3), (252, .ireturn, 1), (253, .aload_n 0, 1), (254, .iconst 3, 1), (255, .aload_n 0, 1), (256, .getfield 19, 3), (259, .iload_n 2, 1), (260, .iaload, 1), (261, .invokevirtual 282, 3), (264, .ireturn, 1), (265, .aload_n 0, 1), (266, .iload_n 2, 1), (267, .aload_n 0, 1), (268, .getfield 16, 3), (271, .aload_n 0, 1), (272, .getfield 125, 3), (275, .iaload, 1), (276, .invokevirtual 340, 3), (279, .ireturn, 1), (280, .aload_n 0, 1), (281, .aload_n 0, 1), (282, .getfield 34, 3), (285, .aload_n 0, 1), (286, .getfield 134, 3), (289, .iconst 1, 1), (290, .isub, 1), (291, .iaload, 1), (292, .aload_n 0, 1), (293, .getfield 37, 3), (296, .aload_n 0, 1), (297, .getfield 134, 3), (300, .iconst 1, 1), (301, .isub, 1), (302, .iaload, 1), (303, .invokevirtual 282, 3), (306, .ireturn, 1), (307, .aload_n 0, 1), (308, .invokevirtual 343, 3), (311, .ireturn, 1), (312, .aload_n 0, 1), (313, .invokevirtual 346, 3), (316, .ireturn, 1), (317, .aload_n 0, 1), (318, .aload_n 0, 1), (319, .getfield 125, 3), (322, .iconst 1, 1), (323, .iadd, 1), (324, .invokevirtual 252, 3), (327, .ireturn, 1)]
def t_X9_step : List (Nat × Instr × Nat) := [(0, .aload_n 0, 1), (1, .getfield 167, 3), (4, .ifCond .ne 5, 3), (7, .iconst (-1), 1), (8, .ireturn, 1), (9, .aload_n 0, 1), (10, .getfield 122, 3), (13, .ifCond .ne 10, 3), (16, .aload_n 0, 1), (17, .invokevirtual 349, 3), (20, .goto 7, 3), (23, .aload_n 0, 1), (24, .getfield 122, 3), (27, .ireturn, 1)]
def t_X9_run : List (Nat × Instr × Nat) := [(0, .aload_n 0, 1), (1, .getfield 167, 3), (4, .ifCond .eq 14, 3), (7, .iload_n 1, 1), (8, .ifCond .lt 10, 3), (11, .iload_n 1, 1), (12, .sipush 20000, 3), (15, .if_icmp .le 5, 3), (18, .iconst (-1), 1), (19, .ireturn, 1), (20, .iconst 0, 1), (21, .istore_n 2, 1), (22, .iload_n 2, 1), (23, .iload_n 1, 1), (24, .if_icmp .ge 24, 3), (27, .aload_n 0, 1), (28, .getfield 122, 3), (31, .ifCond .ne 17, 3), (34, .aload_n 0, 1), (35, .aload_n 0, 1), (36, .invokevirtual 349, 3), (39, .putfield 122, 3), (42, .iinc 2 1, 3), (45, .goto (-23), 3), (48, .aload_n 0, 1), (49, .getfield 122, 3), (52, .ireturn, 1)]
def t_X9_restart : List (Nat × Instr × Nat) := [(0, .aload_n 0, 1), (1, .getfield 167, 3), (4, .ifCond .ne 5, 3), (7, .iconst (-1), 1), (8, .ireturn, 1), (9, .aload_n 0, 1), (10, .getfield 128, 3), (13, .istore_n 1, 1), (14, .aload_n 0, 1), (15, .invokevirtual 119, 3), (18, .iload_n 1, 1), (19, .ireturn, 1)]
def t_X9_collectMinor : List (Nat × Instr × Nat) := [(0, .aload_n 0, 1), (1, .getfield 167, 3), (4, .ifCond .ne 5, 3), (7, .iconst (-1), 1), (8, .ireturn, 1), (9, .aload_n 0, 1), (10, .invokevirtual 223, 3), (13, .ifCond .eq 10, 3), (16, .aload_n 0, 1), (17, .getfield 220, 3), (20, .goto 5, 3), (23, .bipush (-3), 2), (25, .ireturn, 1)]
def t_X9_collectMajor : List (Nat × Instr × Nat) := [(0, .aload_n 0, 1), (1, .getfield 167, 3), (4, .ifCond .eq 10, 3), (7, .aload_n 0, 1), (8, .invokevirtual 217, 3), (11, .goto 4, 3), (14, .iconst (-1), 1), (15, .ireturn, 1)]
def t_X9_objects : List (Nat × Instr × Nat) := [(0, .iconst 0, 1), (1, .istore_n 2, 1), (2, .iconst 0, 1), (3, .istore_n 3, 1), (4, .iload_n 3, 1), (5, .sipush 1500, 3), (8, .if_icmp .ge 36, 3), (11, .aload_n 0, 1), (12, .getfield 64, 3), (15, .iload_n 3, 1), (16, .iaload, 1), (17, .ifCond .le 19, 3), (20, .aload_n 0, 1), (21, .getfield 67, 3), (24, .iload_n 3, 1), (25, .baload, 1), (26, .iload_n 1, 1), (27, .if_icmp .ne 9, 3), (30, .iload_n 2, 1), (31, .iconst 1, 1), (32, .iadd, 1), (33, .goto 4, 3), (36, .iload_n 2, 1), (37, .istore_n 2, 1), (38, .iinc 3 1, 3), (41, .goto (-37), 3), (44, .iload_n 2, 1), (45, .ireturn, 1)]
def t_X9_many : List (Nat × Instr × Nat) := [(0, .iload_n 1, 1), (1, .bipush 13, 2), (3, .if_icmp .ne 8, 3), (6, .aload_n 0, 1), (7, .getfield 164, 3), (10, .ireturn, 1), (11, .aload_n 0, 1), (12, .getfield 167, 3), (15, .ifCond .ne 19, 3), (18, .iload_n 1, 1), (19, .ifCond .lt 9, 3), (22, .iload_n 1, 1), (23, .bipush 13, 2), (25, .if_icmp .le 7, 3), (28, .iconst (-1), 1), (29, .goto 4, 3), (32, .iconst 0, 1), (33, .ireturn, 1), (34, .iload_n 1, 1), (35, .tableswitch 132 0 12 #[65, 70, 75, 81, 87, 92, 97, 102, 107, 112, 117, 122, 127], 65), (100, .aload_n 0, 1), (101, .getfield 143, 3), (104, .ireturn, 1), (105, .aload_n 0, 1), (106, .getfield 146, 3), (109, .ireturn, 1), (110, .aload_n 0, 1), (111, .iconst 0, 1), (112, .invokevirtual 352, 3), (115, .ireturn, 1), (116, .aload_n 0, 1), (117, .iconst 1, 1), (118, .invokevirtual 352, 3), (121, .ireturn, 1), (122, .aload_n 0, 1), (123, .getfield 149, 3), (126, .ireturn, 1), (127, .aload_n 0, 1), (128, .getfield 152, 3), (131, .ireturn, 1), (132, .aload_n 0, 1), (133, .getfield 155, 3), (136, .ireturn, 1), (137, .aload_n 0, 1), (138, .getfield 158, 3), (141, .ireturn, 1), (142, .aload_n 0, 1), (143, .getfield 161, 3), (146, .ireturn, 1), (147, .aload_n 0, 1), (148, .getfield 128, 3), (151, .ireturn, 1), (152, .aload_n 0, 1), (153, .getfield 125, 3), (156, .ireturn, 1), (157, .aload_n 0, 1), (158, .getfield 131, 3), (161, .ireturn, 1), (162, .aload_n 0, 1), (163, .getfield 134, 3), (166, .ireturn, 1), (167, .iconst (-1), 1), (168, .ireturn, 1)]
def t_X9_tell : List (Nat × Instr × Nat) := [(0, .iload_n 3, 1), (1, .ifCond .ne 5, 3), (4, .iload_n 1, 1), (5, .ireturn, 1), (6, .iload_n 3, 1), (7, .iconst 1, 1), (8, .if_icmp .eq 7, 3), (11, .iconst (-1), 1), (12, .goto 26, 3), (15, .iload_n 1, 1), (16, .iconst 2, 1), (17, .if_icmp .ne 12, 3), (20, .aload_n 0, 1), (21, .getfield 64, 3), (24, .iload_n 2, 1), (25, .iaload, 1), (26, .goto 12, 3), (29, .iload_n 1, 1), (30, .ifCond .ne 7, 3), (33, .iconst 0, 1), (34, .goto 4, 3), (37, .iload_n 2, 1), (38, .ireturn, 1)]
def t_X9_pile : List (Nat × Instr × Nat) := [(0, .aload_n 0, 1), (1, .getfield 167, 3), (4, .ifCond .eq 15, 3), (7, .iload_n 1, 1), (8, .ifCond .lt 11, 3), (11, .iload_n 1, 1), (12, .aload_n 0, 1), (13, .getfield 131, 3), (16, .if_icmp .lt 5, 3), (19, .iconst (-1), 1), (20, .ireturn, 1), (21, .aload_n 0, 1), (22, .aload_n 0, 1), (23, .iload_n 1, 1), (24, .invokevirtual 255, 3), (27, .aload_n 0, 1), (28, .iload_n 1, 1), (29, .invokevirtual 258, 3), (32, .iload_n 2, 1), (33, .invokevirtual 356, 3), (36, .ireturn, 1)]
def t_X9_local_ : List (Nat × Instr × Nat) := [(0, .aload_n 0, 1), (1, .getfield 134, 3), (4, .iconst 1, 1), (5, .isub, 1), (6, .istore_n 3, 1), (7, .aload_n 0, 1), (8, .getfield 167, 3), (11, .ifCond .eq 23, 3), (14, .iload_n 1, 1), (15, .ifCond .lt 19, 3), (18, .iload_n 1, 1), (19, .bipush 16, 2), (21, .if_icmp .eq 15, 3), (24, .iload_n 1, 1), (25, .aload_n 0, 1), (26, .getfield 40, 3), (29, .iload_n 3, 1), (30, .iaload, 1), (31, .if_icmp .lt 5, 3), (34, .iconst (-1), 1), (35, .ireturn, 1), (36, .iload_n 1, 1), (37, .bipush 16, 2), (39, .if_icmp .ne 23, 3), (42, .aload_n 0, 1), (43, .aload_n 0, 1), (44, .getfield 34, 3), (47, .iload_n 3, 1), (48, .iaload, 1), (49, .aload_n 0, 1), (50, .getfield 37, 3), (53, .iload_n 3, 1), (54, .iaload, 1), (55, .iload_n 2, 1), (56, .invokevirtual 356, 3), (59, .goto 30, 3), (62, .aload_n 0, 1), (63, .aload_n 0, 1), (64, .getfield 43, 3), (67, .bipush 16, 2), (69, .iload_n 3, 1), (70, .imul, 1), (71, .iload_n 1, 1), (72, .iadd, 1), (73, .iaload, 1), (74, .aload_n 0, 1), (75, .getfield 46, 3), (78, .bipush 16, 2), (80, .iload_n 3, 1), (81, .imul, 1), (82, .iload_n 1, 1), (83, .iadd, 1), (84, .iaload, 1), (85, .iload_n 2, 1), (86, .invokevirtual 356, 3), (89, .ireturn, 1)]
def t_X9_placeOf : List (Nat × Instr × Nat) := [(0, .iconst 0, 1), (1, .istore_n 2, 1), (2, .iload_n 2, 1), (3, .sipush 1500, 3), (6, .if_icmp .ge 21, 3), (9, .aload_n 0, 1), (10, .getfield 64, 3), (13, .iload_n 2, 1), (14, .iaload, 1), (15, .iload_n 1, 1), (16, .if_icmp .ne 5, 3), (19, .iload_n 2, 1), (20, .ireturn, 1), (21, .iinc 2 1, 3), (24, .goto (-22), 3), (27, .iconst (-1), 1), (28, .ireturn, 1)]
def t_X9_object : List (Nat × Instr × Nat) := [(0, .aload_n 0, 1), (1, .getfield 167, 3), (4, .ifCond .eq 16, 3), (7, .iload_n 1, 1), (8, .iconst 1, 1), (9, .if_icmp .lt 11, 3), (12, .iload_n 1, 1), (13, .aload_n 0, 1), (14, .getfield 140, 3), (17, .if_icmp .le 5, 3), (20, .iconst (-1), 1), (21, .ireturn, 1), (22, .aload_n 0, 1), (23, .iload_n 1, 1), (24, .invokevirtual 359, 3), (27, .istore_n 3, 1), (28, .iload_n 3, 1), (29, .ifCond .ge 13, 3), (32, .iload_n 2, 1), (33, .ifCond .ne 7, 3), (36, .iconst 2, 1), (37, .goto 4, 3), (40, .iconst (-1), 1), (41, .ireturn, 1), (42, .iload_n 2, 1), (43, .tableswitch 79 0 4 #[33, 48, 54, 61, 72], 33), (76, .aload_n 0, 1), (77, .getfield 67, 3), (80, .iload_n 3, 1), (81, .baload, 1), (82, .ifCond .eq 7, 3), (85, .iconst 1, 1), (86, .goto 4, 3), (89, .iconst 0, 1), (90, .ireturn, 1), (91, .aload_n 0, 1), (92, .iload_n 3, 1), (93, .invokevirtual 202, 3), (96, .ireturn, 1), (97, .aload_n 0, 1), (98, .getfield 74, 3), (101, .iload_n 3, 1), (102, .iaload, 1), (103, .ireturn, 1), (104, .aload_n 0, 1), (105, .aload_n 0, 1), (106, .getfield 71, 3), (109, .iload_n 3, 1), (110, .iaload, 1), (111, .invokevirtual 237, 3), (114, .ireturn, 1), (115, .aload_n 0, 1), (116, .getfield 77, 3), (119, .iload_n 3, 1), (120, .iaload, 1), (121, .ireturn, 1), (122, .iconst (-1), 1), (123, .ireturn, 1)]
def t_X9_slot : List (Nat × Instr × Nat) := [(0, .aload_n 0, 1), (1, .getfield 167, 3), (4, .ifCond .eq 16, 3), (7, .iload_n 1, 1), (8, .iconst 1, 1), (9, .if_icmp .lt 11, 3), (12, .iload_n 1, 1), (13, .aload_n 0, 1), (14, .getfield 140, 3), (17, .if_icmp .le 5, 3), (20, .iconst (-1), 1), (21, .ireturn, 1), (22, .aload_n 0, 1), (23, .iload_n 1, 1), (24, .invokevirtual 359, 3), (27, .istore 4, 2), (29, .iload 4, 2), (31, .ifCond .lt 27, 3), (34, .iload_n 2, 1), (35, .ifCond .lt 23, 3), (38, .iload_n 2, 1), (39, .aload_n 0, 1), (40, .getfield 74, 3), (43, .iload 4, 2), (45, .iaload, 1), (46, .if_icmp .ge 12, 3), (49, .iload_n 3, 1), (50, .ifCond .lt 8, 3), (53, .iload_n 3, 1), (54, .iconst 2, 1), (55, .if_icmp .le 5, 3), (58, .iconst (-1), 1), (59, .ireturn, 1), (60, .bipush 40, 2), (62, .iload 4, 2), (64, .imul, 1), (65, .iload_n 2, 1), (66, .iadd, 1), (67, .istore 5, 2), (69, .iload_n 3, 1), (70, .ifCond .ne 13, 3), (73, .aload_n 0, 1), (74, .getfield 81, 3), (77, .iload 5, 2), (79, .iaload, 1), (80, .goto 24, 3), (83, .aload_n 0, 1), (84, .aload_n 0, 1), (85, .getfield 84, 3), (88, .iload 5, 2), (90, .iaload, 1), (91, .aload_n 0, 1), (92, .getfield 87, 3), (95, .iload 5, 2), (97, .iaload, 1), (98, .iload_n 3, 1), (99, .iconst 1, 1), (100, .isub, 1), (101, .invokevirtual 356, 3), (104, .ireturn, 1)]
def t_X9_outSize : List (Nat × Instr × Nat) := [(0, .aload_n 0, 1), (1, .getfield 137, 3), (4, .ireturn, 1)]
def t_X9_out : List (Nat × Instr × Nat) := [(0, .iload_n 1, 1), (1, .ifCond .lt 27, 3), (4, .iload_n 1, 1), (5, .aload_n 0, 1), (6, .getfield 137, 3), (9, .if_icmp .ge 19, 3), (12, .iload_n 1, 1), (13, .sipush 1000, 3), (16, .if_icmp .ge 12, 3), (19, .iload_n 2, 1), (20, .ifCond .lt 8, 3), (23, .iload_n 2, 1), (24, .iconst 1, 1), (25, .if_icmp .le 5, 3), (28, .iconst (-1), 1), (29, .ireturn, 1), (30, .iload_n 2, 1), (31, .ifCond .ne 12, 3), (34, .aload_n 0, 1), (35, .getfield 58, 3), (38, .iload_n 1, 1), (39, .iaload, 1), (40, .goto 9, 3), (43, .aload_n 0, 1), (44, .getfield 61, 3), (47, .iload_n 1, 1), (48, .iaload, 1), (49, .ireturn, 1)]
def t_J7_fill_d0a16 : List (Nat × Instr × Nat) := [(0, .iconst 0, 1), (1, .istore_n 3, 1), (2, .aload_n 0, 1), (3, .arraylength, 1), (4, .istore 4, 2), (6, .iload_n 3, 1), (7, .iload 4, 2), (9, .if_icmp .ge 13, 3), (12, .aload_n 0, 1), (13, .iload_n 3, 1), (14, .lload_n 1, 1), (15, .lastore, 1), (16, .iinc 3 1, 3), (19, .goto (-13), 3), (22, .return_, 1)]
def t_J7_fill_53178 : List (Nat × Instr × Nat) := [(0, .iconst 0, 1), (1, .istore_n 2, 1), (2, .aload_n 0, 1), (3, .arraylength, 1), (4, .istore_n 3, 1), (5, .iload_n 2, 1), (6, .iload_n 3, 1), (7, .if_icmp .ge 13, 3), (10, .aload_n 0, 1), (11, .iload_n 2, 1), (12, .iload_n 1, 1), (13, .iastore, 1), (14, .iinc 2 1, 3), (17, .goto (-12), 3), (20, .return_, 1)]
def t_L_cell : List (Nat × Instr × Nat) := [(0, .iload_n 1, 1), (1, .aload_n 0, 1), (2, .arraylength, 1), (3, .if_icmp .ge 9, 3), (6, .aload_n 0, 1), (7, .iload_n 1, 1), (8, .iaload, 1), (9, .goto 4, 3), (12, .iconst 0, 1), (13, .ireturn, 1)]
def t_L_law : List (Nat × Instr × Nat) := [(0, .new 7, 3), (3, .dup, 1), (4, .aload_n 0, 1), (5, .iconst 0, 1), (6, .invokestatic 9, 3), (9, .aload_n 0, 1), (10, .iconst 1, 1), (11, .invokestatic 9, 3), (14, .invokespecial 15, 3), (17, .astore_n 1, 1), (18, .new 18, 3), (21, .dup, 1), (22, .aload_n 0, 1), (23, .iconst 0, 1), (24, .invokestatic 9, 3), (27, .aload_n 0, 1), (28, .iconst 1, 1), (29, .invokestatic 9, 3), (32, .invokespecial 20, 3), (35, .astore_n 2, 1), (36, .iconst 2, 1), (37, .istore_n 3, 1), (38, .iload_n 3, 1), (39, .aload_n 0, 1), (40, .arraylength, 1), (41, .iconst 4, 1), (42, .isub, 1), (43, .if_icmp .gt 463, 3), (46, .aload_n 0, 1), (47, .iload_n 3, 1), (48, .iaload, 1), (49, .bipush 15, 2), (51, .iand, 1), (52, .tableswitch 448 0 15 #[80, 123, 136, 149, 162, 175, 198, 211, 224, 237, 260, 293, 326, 359, 402, 415], 80), (132, .aload_n 1, 1), (133, .aload_n 0, 1), (134, .iload_n 3, 1), (135, .iconst 1, 1), (136, .iadd, 1), (137, .iaload, 1), (138, .aload_n 0, 1), (139, .iload_n 3, 1), (140, .iconst 2, 1), (141, .iadd, 1), (142, .iaload, 1), (143, .aload_n 0, 1), (144, .iload_n 3, 1), (145, .iconst 3, 1), (146, .iadd, 1), (147, .iaload, 1), (148, .invokevirtual 21, 3), (151, .aload_n 2, 1), (152, .aload_n 0, 1), (153, .iload_n 3, 1), (154, .iconst 1, 1), (155, .iadd, 1), (156, .iaload, 1), (157, .aload_n 0, 1), (158, .iload_n 3, 1), (159, .iconst 2, 1), (160, .iadd, 1), (161, .iaload, 1), (162, .aload_n 0, 1), (163, .iload_n 3, 1), (164, .iconst 3, 1), (165, .iadd, 1), (166, .iaload, 1), (167, .invokevirtual 25, 3), (170, .if_icmp .eq 330, 3), (173, .iconst 0, 1), (174, .ireturn, 1), (175, .aload_n 1, 1), (176, .invokevirtual 26, 3), (179, .aload_n 2, 1), (180, .invokevirtual 30, 3), (183, .if_icmp .eq 317, 3), (186, .iconst 0, 1), (187, .ireturn, 1), (188, .aload_n 1, 1), (189, .invokevirtual 31, 3), (192, .aload_n 2, 1), (193, .invokevirtual 34, 3), (196, .if_icmp .eq 304, 3), (199, .iconst 0, 1), (200, .ireturn, 1), (201, .aload_n 1, 1), (202, .invokevirtual 35, 3), (205, .aload_n 2, 1), (206, .invokevirtual 38, 3), (209, .if_icmp .eq 291, 3), (212, .iconst 0, 1), (213, .ireturn, 1), (214, .aload_n 1, 1), (215, .invokevirtual 39, 3), (218, .aload_n 2, 1), (219, .invokevirtual 42, 3), (222, .if_icmp .eq 278, 3), (225, .iconst 0, 1), (226, .ireturn, 1), (227, .aload_n 1, 1), (228, .aload_n 0, 1), (229, .iload_n 3, 1), (230, .iconst 1, 1), (231, .iadd, 1), (232, .iaload, 1), (233, .invokevirtual 43, 3), (236, .aload_n 2, 1), (237, .aload_n 0, 1), (238, .iload_n 3, 1), (239, .iconst 1, 1), (240, .iadd, 1), (241, .iaload, 1), (242, .invokevirtual 47, 3), (245, .if_icmp .eq 255, 3), (248, .iconst 0, 1), (249, .ireturn, 1), (250, .aload_n 1, 1), (251, .invokevirtual 48, 3), (254, .aload_n 2, 1), (255, .invokevirtual 51, 3), (258, .if_icmp .eq 242, 3), (261, .iconst 0, 1), (262, .ireturn, 1), (263, .aload_n 1, 1), (264, .invokevirtual 52, 3), (267, .aload_n 2, 1), (268, .invokevirtual 55, 3), (271, .if_icmp .eq 229, 3), (274, .iconst 0, 1), (275, .ireturn, 1), (276, .aload_n 1, 1), (277, .invokevirtual 56, 3), (280, .aload_n 2, 1), (281, .invokevirtual 59, 3), (284, .if_icmp .eq 216, 3), (287, .iconst 0, 1), (288, .ireturn, 1), (289, .aload_n 1, 1), (290, .aload_n 0, 1), (291, .iload_n 3, 1), (292, .iconst 1, 1), (293, .iadd, 1), (294, .iaload, 1), (295, .invokevirtual 60, 3), (298, .aload_n 2, 1), (299, .aload_n 0, 1), (300, .iload_n 3, 1), (301, .iconst 1, 1), (302, .iadd, 1), (303, .iaload, 1), (304, .invokevirtual 63, 3), (307, .if_icmp .eq 193, 3), (310, .iconst 0, 1), (311, .ireturn, 1), (312, .aload_n 1, 1), (313, .aload_n 0, 1), (314, .iload_n 3, 1), (315, .iconst 1, 1), (316, .iadd, 1), (317, .iaload, 1), (318, .aload_n 0, 1), (319, .iload_n 3, 1), (320, .iconst 2, 1), (321, .iadd, 1), (322, .iaload, 1), (323, .invokevirtual 64, 3), (326, .aload_n 2, 1), (327, .aload_n 0, 1), (328, .iload_n 3, 1), (329, .iconst 1, 1), (330, .iadd, 1), (331, .iaload, 1), (332, .aload_n 0, 1), (333, .iload_n 3, 1), (334, .iconst 2, 1), (335, .iadd, 1), (336, .iaload, 1), (337, .invokevirtual 68, 3), (340, .if_icmp .eq 160, 3), (343, .iconst 0, 1), (344, .ireturn, 1), (345, .aload_n 1, 1), (346, .aload_n 0, 1), (347, .iload_n 3, 1), (348, .iconst 1, 1), (349, .iadd, 1), (350, .iaload, 1), (351, .aload_n 0, 1), (352, .iload_n 3, 1), (353, .iconst 2, 1), (354, .iadd, 1), (355, .iaload, 1), (356, .invokevirtual 69, 3), (359, .aload_n 2, 1), (360, .aload_n 0, 1), (361, .iload_n 3, 1), (362, .iconst 1, 1), (363, .iadd, 1), (364, .iaload, 1), (365, .aload_n 0, 1), (366, .iload_n 3, 1), (367, .iconst 2, 1), (368, .iadd, 1), (369, .iaload, 1), (370, .invokevirtual 72, 3), (373, .if_icmp .eq 127, 3), (376, .iconst 0, 1), (377, .ireturn, 1), (378, .aload_n 1, 1), (379, .aload_n 0, 1), (380, .iload_n 3, 1), (381, .iconst 1, 1), (382, .iadd, 1), (383, .iaload, 1), (384, .aload_n 0, 1), (385, .iload_n 3, 1), (386, .iconst 2, 1), (387, .iadd, 1), (388, .iaload, 1), (389, .invokevirtual 73, 3), (392, .aload_n 2, 1), (393, .aload_n 0, 1), (394, .iload_n 3, 1), (395, .iconst 1, 1), (396, .iadd, 1), (397, .iaload, 1), (398, .aload_n 0, 1), (399, .iload_n 3, 1), (400, .iconst 2, 1), (401, .iadd, 1), (402, .iaload, 1), (403, .invokevirtual 76, 3), (406, .if_icmp .eq 94, 3), (409, .iconst 0, 1), (410, .ireturn, 1), (411, .aload_n 1, 1), (412, .aload_n 0, 1), (413, .iload_n 3, 1), (414, .iconst 1, 1), (415, .iadd, 1), (416, .iaload, 1), (417, .aload_n 0, 1), (418, .iload_n 3, 1), (419, .iconst 2, 1), (420, .iadd, 1), (421, .iaload, 1), (422, .aload_n 0, 1), (423, .iload_n 3, 1), (424, .iconst 3, 1), (425, .iadd, 1), (426, .iaload, 1), (427, .invokevirtual 77, 3), (430, .aload_n 2, 1), (431, .aload_n 0, 1), (432, .iload_n 3, 1), (433, .iconst 1, 1), (434, .iadd, 1), (435, .iaload, 1), (436, .aload_n 0, 1), (437, .iload_n 3, 1), (438, .iconst 2, 1), (439, .iadd, 1), (440, .iaload, 1), (441, .aload_n 0, 1), (442, .iload_n 3, 1), (443, .iconst 3, 1), (444, .iadd, 1), (445, .iaload, 1), (446, .invokevirtual 80, 3), (449, .if_icmp .eq 51, 3), (452, .iconst 0, 1), (453, .ireturn, 1), (454, .aload_n 1, 1), (455, .invokevirtual 81, 3), (458, .aload_n 2, 1), (459, .invokevirtual 84, 3), (462, .if_icmp .eq 38, 3), (465, .iconst 0, 1), (466, .ireturn, 1), (467, .aload_n 1, 1), (468, .aload_n 0, 1), (469, .iload_n 3, 1), (470, .iconst 1, 1), (471, .iadd, 1), (472, .iaload, 1), (473, .aload_n 0, 1), (474, .iload_n 3, 1), (475, .iconst 2, 1), (476, .iadd, 1), (477, .iaload, 1), (478, .invokevirtual 85, 3), (481, .aload_n 2, 1), (482, .aload_n 0, 1), (483, .iload_n 3, 1), (484, .iconst 1, 1), (485, .iadd, 1), (486, .iaload, 1), (487, .aload_n 0, 1), (488, .iload_n 3, 1), (489, .iconst 2, 1), (490, .iadd, 1), (491, .iaload, 1), (492, .invokevirtual 88, 3), (495, .if_icmp .eq 5, 3), (498, .iconst 0, 1), (499, .ireturn, 1), (500, .iinc 3 4, 3), (503, .goto (-465), 3), (506, .iconst 1, 1), (507, .ireturn, 1)]
def md_X0_init : MD := (yX0_init, cX0_init, 1, none, 0, 0, [122, 98, 121, 0], t_X0_init)
def md_X0_add : MD := (yX0_add, cX0_add, 5, none, 3, 0, [400, 98, 398, 399], t_X0_add)
def md_X0_wordAt : MD := (yX0_wordAt, cX0_wordAt, 2, (some (.object "ProtoMachine$Word")), 1, 0, [392, 98, 390, 391], t_X0_wordAt)
def md_X0_placeOf : MD := (yX0_placeOf, cX0_placeOf, 2, (some .int), 1, 0, [437, 98, 435, 436], t_X0_placeOf)
def md_X0_forgetAll : MD := (yX0_forgetAll, cX0_forgetAll, 2, none, 0, 0, [388, 98, 386, 387], t_X0_forgetAll)
def md_X0_firstFault : MD := (yX0_firstFault, cX0_firstFault, 2, (some .int), 0, 0, [412, 98, 410, 411], t_X0_firstFault)
def md_X0_layLabels : MD := (yX0_layLabels, cX0_layLabels, 3, none, 0, 0, [416, 98, 415, 2], t_X0_layLabels)
def md_X0_faultOf : MD := (yX0_faultOf, cX0_faultOf, 3, (some .int), 2, 0, [441, 98, 440, 5], t_X0_faultOf)
def md_X1_init : MD := (yX1_init, cX1_init, 2, none, 1, 1, [181, 101, 180, 0], t_X1_init)
def md_X1_begin : MD := (yX1_begin, cX1_begin, 4, none, 2, 1, [376, 101, 374, 375], t_X1_begin)
def md_X1_hasLocal : MD := (yX1_hasLocal, cX1_hasLocal, 2, (some .boolean), 1, 1, [633, 101, 631, 632], t_X1_hasLocal)
def md_X1_valueAt : MD := (yX1_valueAt, cX1_valueAt, 2, (some .long), 1, 1, [637, 101, 635, 636], t_X1_valueAt)
def md_X1_put : MD := (yX1_put, cX1_put, 4, none, 2, 1, [645, 101, 643, 644], t_X1_put)
def md_X2_init : MD := (yX2_init, cX2_init, 4, none, 3, 2, [251, 102, 250, 0], t_X2_init)
def md_X2_clear : MD := (yX2_clear, cX2_clear, 1, none, 0, 2, [384, 102, 382, 383], t_X2_clear)
def md_X2_thingOf : MD := (yX2_thingOf, cX2_thingOf, 4, (some (.object "ProtoMachine$Thing")), 1, 2, [520, 102, 518, 519], t_X2_thingOf)
def md_X2_outward : MD := (yX2_outward, cX2_outward, 4, (some .long), 1, 2, [675, 102, 673, 674], t_X2_outward)
def md_X2_withSerial : MD := (yX2_withSerial, cX2_withSerial, 4, (some (.object "ProtoMachine$Thing")), 1, 2, [926, 102, 924, 925], t_X2_withSerial)
def md_X2_make : MD := (yX2_make, cX2_make, 3, (some (.object "ProtoMachine$Thing")), 1, 2, [688, 102, 686, 687], t_X2_make)
def md_X2_addSlot : MD := (yX2_addSlot, cX2_addSlot, 5, none, 3, 2, [836, 102, 834, 835], t_X2_addSlot)
def md_X2_removeSlot : MD := (yX2_removeSlot, cX2_removeSlot, 4, none, 2, 2, [844, 102, 842, 843], t_X2_removeSlot)
def md_X2_hasRoomToMake : MD := (yX2_hasRoomToMake, cX2_hasRoomToMake, 2, (some .boolean), 1, 2, [500, 102, 498, 499], t_X2_hasRoomToMake)
def md_X2_hasRoomForSlot : MD := (yX2_hasRoomForSlot, cX2_hasRoomForSlot, 2, (some .boolean), 1, 2, [567, 102, 565, 566], t_X2_hasRoomForSlot)
def md_X2_minor : MD := (yX2_minor, cX2_minor, 4, (some .int), 0, 2, [508, 102, 506, 507], t_X2_minor)
def md_X2_major : MD := (yX2_major, cX2_major, 1, (some .int), 0, 2, [557, 102, 555, 556], t_X2_major)
def md_X2_youngLeft : MD := (yX2_youngLeft, cX2_youngLeft, 1, (some .int), 0, 2, [504, 102, 503, 9], t_X2_youngLeft)
def md_X2_oldLeft : MD := (yX2_oldLeft, cX2_oldLeft, 1, (some .int), 0, 2, [537, 102, 536, 14], t_X2_oldLeft)
def md_X2_freeUnmarked : MD := (yX2_freeUnmarked, cX2_freeUnmarked, 4, (some .int), 0, 2, [541, 102, 540, 15], t_X2_freeUnmarked)
def md_X2_unused : MD := (yX2_unused, cX2_unused, 2, (some (.object "ProtoMachine$Thing")), 0, 2, [692, 102, 691, 31], t_X2_unused)
def md_X2_admit : MD := (yX2_admit, cX2_admit, 4, none, 3, 2, [549, 102, 548, 17], t_X2_admit)
def md_X2_leaveNursery : MD := (yX2_leaveNursery, cX2_leaveNursery, 2, none, 1, 2, [553, 102, 552, 18], t_X2_leaveNursery)
def md_X2_free : MD := (yX2_free, cX2_free, 2, none, 1, 2, [545, 102, 544, 16], t_X2_free)
def md_X2_youngMarked : MD := (yX2_youngMarked, cX2_youngMarked, 4, (some .int), 0, 2, [529, 102, 528, 13], t_X2_youngMarked)
def md_X2_mark : MD := (yX2_mark, cX2_mark, 4, none, 1, 2, [512, 102, 511, 10], t_X2_mark)
def md_X2_reachRow : MD := (yX2_reachRow, cX2_reachRow, 4, none, 2, 2, [516, 102, 515, 11], t_X2_reachRow)
def md_X2_reach : MD := (yX2_reach, cX2_reach, 2, none, 1, 2, [525, 102, 524, 12], t_X2_reach)
def md_X3_init : MD := (yX3_init, cX3_init, 1, none, 0, 3, [785, 109, 784, 0], t_X3_init)
def md_X3_isOf : MD := (yX3_isOf, cX3_isOf, 4, (some .boolean), 3, 3, [808, 109, 806, 807], t_X3_isOf)
def md_X3_note : MD := (yX3_note, cX3_note, 5, none, 4, 3, [822, 109, 820, 821], t_X3_note)
def md_X3_hasNamesOf : MD := (yX3_hasNamesOf, cX3_hasNamesOf, 3, (some .boolean), 1, 3, [815, 109, 814, 36], t_X3_hasNamesOf)
def md_X4_init : MD := (yX4_init, cX4_init, 1, none, 0, 4, [312, 104, 311, 0], t_X4_init)
def md_X4_add : MD := (yX4_add, cX4_add, 3, none, 1, 4, [680, 104, 678, 679], t_X4_add)
def md_X4_kept : MD := (yX4_kept, cX4_kept, 1, (some .int), 0, 4, [943, 104, 941, 942], t_X4_kept)
def md_X5_init : MD := (yX5_init, cX5_init, 1, none, 0, 5, [173, 100, 172, 0], t_X5_init)
def md_X5_clear : MD := (yX5_clear, cX5_clear, 2, none, 0, 5, [372, 100, 370, 371], t_X5_clear)
def md_X5_ofFrame : MD := (yX5_ofFrame, cX5_ofFrame, 1, (some .int), 0, 5, [474, 100, 472, 473], t_X5_ofFrame)
def md_X5_fromAbove : MD := (yX5_fromAbove, cX5_fromAbove, 2, (some .long), 1, 5, [478, 100, 476, 477], t_X5_fromAbove)
def md_X5_push : MD := (yX5_push, cX5_push, 3, (some .boolean), 1, 5, [583, 100, 581, 582], t_X5_push)
def md_X5_take : MD := (yX5_take, cX5_take, 3, (some .long), 0, 5, [600, 100, 598, 599], t_X5_take)
def md_X5_lower : MD := (yX5_lower, cX5_lower, 2, none, 1, 5, [591, 100, 589, 590], t_X5_lower)
def md_X5_enter : MD := (yX5_enter, cX5_enter, 8, none, 4, 5, [876, 100, 874, 875], t_X5_enter)
def md_X5_leave : MD := (yX5_leave, cX5_leave, 3, none, 0, 5, [666, 100, 664, 665], t_X5_leave)
def md_X5_globalAt : MD := (yX5_globalAt, cX5_globalAt, 2, (some .long), 1, 5, [650, 100, 648, 649], t_X5_globalAt)
def md_X5_putGlobal : MD := (yX5_putGlobal, cX5_putGlobal, 4, none, 2, 5, [658, 100, 656, 657], t_X5_putGlobal)
def md_X5_protoOf : MD := (yX5_protoOf, cX5_protoOf, 2, (some (.object "ProtoMachine$Thing")), 1, 5, [769, 100, 767, 768], t_X5_protoOf)
def md_X5_putProto : MD := (yX5_putProto, cX5_putProto, 3, none, 2, 5, [864, 100, 862, 863], t_X5_putProto)
def md_X6_init : MD := (yX6_init, cX6_init, 2, none, 1, 6, [696, 107, 695, 0], t_X6_init)
def md_X6_size : MD := (yX6_size, cX6_size, 1, (some .int), 0, 6, [533, 107, 531, 532], t_X6_size)
def md_X6_indexOf : MD := (yX6_indexOf, cX6_indexOf, 3, (some .int), 1, 6, [563, 107, 561, 562], t_X6_indexOf)
def md_X6_valueOf : MD := (yX6_valueOf, cX6_valueOf, 3, (some .long), 1, 6, [827, 107, 825, 826], t_X6_valueOf)
def md_X6_copy : MD := (yX6_copy, cX6_copy, 2, none, 1, 6, [754, 107, 752, 753], t_X6_copy)
def md_X7_init : MD := (yX7_init, cX7_init, 1, none, 0, 7, [129, 99, 128, 0], t_X7_init)
def md_X7_memory : MD := (yX7_memory, cX7_memory, 1, (some (.object "ProtoMachine$Memory")), 0, 7, [780, 99, 778, 779], t_X7_memory)
def md_X7_forget : MD := (yX7_forget, cX7_forget, 1, none, 0, 7, [396, 99, 394, 395], t_X7_forget)
def md_X7_wanted : MD := (yX7_wanted, cX7_wanted, 1, (some .int), 0, 7, [470, 99, 468, 469], t_X7_wanted)
def md_X7_kindsAbove : MD := (yX7_kindsAbove, cX7_kindsAbove, 1, (some .int), 0, 7, [482, 99, 480, 481], t_X7_kindsAbove)
def md_X7_kindsBelow : MD := (yX7_kindsBelow, cX7_kindsBelow, 1, (some .int), 0, 7, [492, 99, 490, 491], t_X7_kindsBelow)
def md_X7_isOperation : MD := (yX7_isOperation, cX7_isOperation, 1, (some .boolean), 0, 7, [445, 99, 443, 444], t_X7_isOperation)
def md_X7_isInRange : MD := (yX7_isInRange, cX7_isInRange, 1, (some .boolean), 0, 7, [423, 99, 421, 422], t_X7_isInRange)
def md_X7_goesToLabel : MD := (yX7_goesToLabel, cX7_goesToLabel, 1, (some .boolean), 0, 7, [449, 99, 447, 448], t_X7_goesToLabel)
def md_X7_mostOfA : MD := (yX7_mostOfA, cX7_mostOfA, 1, (some .int), 0, 7, [428, 99, 427, 3], t_X7_mostOfA)
def md_X7_mostOfB : MD := (yX7_mostOfB, cX7_mostOfB, 1, (some .int), 0, 7, [433, 99, 432, 4], t_X7_mostOfB)
def md_X8_init : MD := (yX8_init, cX8_init, 3, none, 2, 8, [114, 97, 113, 0], t_X8_init)
def md_X8_asm : MD := (yX8_asm, cX8_asm, 4, (some .int), 3, 8, [360, 97, 358, 359], t_X8_asm)
def md_X8_wipe : MD := (yX8_wipe, cX8_wipe, 2, (some .int), 0, 8, [404, 97, 402, 403], t_X8_wipe)
def md_X8_link : MD := (yX8_link, cX8_link, 2, (some .int), 0, 8, [408, 97, 406, 407], t_X8_link)
def md_X8_fault : MD := (yX8_fault, cX8_fault, 1, (some .int), 0, 8, [453, 97, 451, 452], t_X8_fault)
def md_X8_step : MD := (yX8_step, cX8_step, 1, (some .int), 0, 8, [457, 97, 455, 456], t_X8_step)
def md_X8_run : MD := (yX8_run, cX8_run, 3, (some .int), 1, 8, [885, 97, 883, 884], t_X8_run)
def md_X8_restart : MD := (yX8_restart, cX8_restart, 2, (some .int), 0, 8, [889, 97, 887, 888], t_X8_restart)
def md_X8_collectMinor : MD := (yX8_collectMinor, cX8_collectMinor, 1, (some .int), 0, 8, [893, 97, 891, 892], t_X8_collectMinor)
def md_X8_collectMajor : MD := (yX8_collectMajor, cX8_collectMajor, 1, (some .int), 0, 8, [898, 97, 896, 897], t_X8_collectMajor)
def md_X8_many : MD := (yX8_many, cX8_many, 2, (some .int), 1, 8, [903, 97, 901, 902], t_X8_many)
def md_X8_pile : MD := (yX8_pile, cX8_pile, 3, (some .int), 2, 8, [911, 97, 909, 910], t_X8_pile)
def md_X8_local : MD := (yX8_local, cX8_local, 3, (some .int), 2, 8, [918, 97, 916, 917], t_X8_local)
def md_X8_object : MD := (yX8_object, cX8_object, 4, (some .int), 2, 8, [922, 97, 920, 921], t_X8_object)
def md_X8_slot : MD := (yX8_slot, cX8_slot, 5, (some .int), 3, 8, [931, 97, 929, 930], t_X8_slot)
def md_X8_outSize : MD := (yX8_outSize, cX8_outSize, 1, (some .int), 0, 8, [935, 97, 933, 934], t_X8_outSize)
def md_X8_out : MD := (yX8_out, cX8_out, 3, (some .int), 2, 8, [939, 97, 937, 938], t_X8_out)
def md_X8_count : MD := (yX8_count, cX8_count, 2, (some .int), 1, 8, [907, 97, 906, 45], t_X8_count)
def md_X8_unlink : MD := (yX8_unlink, cX8_unlink, 1, none, 0, 8, [364, 97, 363, 0], t_X8_unlink)
def md_X8_beginAnew : MD := (yX8_beginAnew, cX8_beginAnew, 1, none, 0, 8, [368, 97, 367, 1], t_X8_beginAnew)
def md_X8_advance : MD := (yX8_advance, cX8_advance, 3, none, 0, 8, [461, 97, 460, 6], t_X8_advance)
def md_X8_valuesEnd : MD := (yX8_valuesEnd, cX8_valuesEnd, 3, (some .int), 1, 8, [466, 97, 465, 7], t_X8_valuesEnd)
def md_X8_roomEnd : MD := (yX8_roomEnd, cX8_roomEnd, 3, (some .int), 1, 8, [496, 97, 495, 8], t_X8_roomEnd)
def md_X8_perform : MD := (yX8_perform, cX8_perform, 2, (some .int), 1, 8, [571, 97, 570, 19], t_X8_perform)
def md_X8_bring : MD := (yX8_bring, cX8_bring, 3, (some .int), 1, 8, [579, 97, 578, 20], t_X8_bring)
def md_X8_exchange : MD := (yX8_exchange, cX8_exchange, 4, (some .int), 2, 8, [618, 97, 617, 24], t_X8_exchange)
def md_X8_letGo : MD := (yX8_letGo, cX8_letGo, 2, (some .int), 1, 8, [587, 97, 586, 21], t_X8_letGo)
def md_X8_swap : MD := (yX8_swap, cX8_swap, 5, (some .int), 0, 8, [596, 97, 595, 22], t_X8_swap)
def md_X8_reckon : MD := (yX8_reckon, cX8_reckon, 6, (some .int), 1, 8, [606, 97, 605, 23], t_X8_reckon)
def md_X8_arithmetic : MD := (yX8_arithmetic, cX8_arithmetic, 5, (some .long), 3, 8, [612, 97, 611, 0], t_X8_arithmetic)
def md_X8_jump : MD := (yX8_jump, cX8_jump, 2, (some .int), 1, 8, [625, 97, 624, 25], t_X8_jump)
def md_X8_store : MD := (yX8_store, cX8_store, 2, (some .int), 1, 8, [641, 97, 640, 26], t_X8_store)
def md_X8_keep : MD := (yX8_keep, cX8_keep, 2, (some .int), 1, 8, [654, 97, 653, 27], t_X8_keep)
def md_X8_print : MD := (yX8_print, cX8_print, 1, (some .int), 0, 8, [671, 97, 670, 29], t_X8_print)
def md_X8_giveBack : MD := (yX8_giveBack, cX8_giveBack, 1, (some .int), 0, 8, [662, 97, 661, 28], t_X8_giveBack)
def md_X8_makeNew : MD := (yX8_makeNew, cX8_makeNew, 2, (some .int), 0, 8, [684, 97, 683, 30], t_X8_makeNew)
def md_X8_makeCopy : MD := (yX8_makeCopy, cX8_makeCopy, 3, (some .int), 0, 8, [750, 97, 749, 32], t_X8_makeCopy)
def md_X8_get : MD := (yX8_get, cX8_get, 5, (some .int), 1, 8, [761, 97, 760, 33], t_X8_get)
def md_X8_set : MD := (yX8_set, cX8_set, 4, (some .int), 1, 8, [832, 97, 831, 37], t_X8_set)
def md_X8_drop : MD := (yX8_drop, cX8_drop, 4, (some .int), 1, 8, [840, 97, 839, 38], t_X8_drop)
def md_X8_parent : MD := (yX8_parent, cX8_parent, 2, (some .int), 0, 8, [849, 97, 848, 39], t_X8_parent)
def md_X8_adopt : MD := (yX8_adopt, cX8_adopt, 4, (some .int), 0, 8, [856, 97, 855, 40], t_X8_adopt)
def md_X8_proto : MD := (yX8_proto, cX8_proto, 2, (some .int), 1, 8, [860, 97, 859, 41], t_X8_proto)
def md_X8_send : MD := (yX8_send, cX8_send, 8, (some .int), 1, 8, [868, 97, 867, 42], t_X8_send)
def md_X8_call : MD := (yX8_call, cX8_call, 6, (some .int), 3, 8, [872, 97, 871, 43], t_X8_call)
def md_X8_answer : MD := (yX8_answer, cX8_answer, 4, (some .int), 2, 8, [881, 97, 880, 44], t_X8_answer)
def md_X8_chainOf : MD := (yX8_chainOf, cX8_chainOf, 4, (some (.object "ProtoMachine$Thing")), 1, 8, [765, 97, 764, 34], t_X8_chainOf)
def md_X8_finder : MD := (yX8_finder, cX8_finder, 3, (some (.object "ProtoMachine$Thing")), 2, 8, [772, 97, 771, 0], t_X8_finder)
def md_X8_remember : MD := (yX8_remember, cX8_remember, 7, none, 2, 8, [776, 97, 775, 35], t_X8_remember)
def md_X8_isUnchanged : MD := (yX8_isUnchanged, cX8_isUnchanged, 3, (some .boolean), 2, 8, [818, 97, 817, 0], t_X8_isUnchanged)
def md_X8_nearest : MD := (yX8_nearest, cX8_nearest, 3, (some .int), 3, 8, [242, 97, 241, 0], t_X8_nearest)
def md_X8_serialOf : MD := (yX8_serialOf, cX8_serialOf, 1, (some .int), 1, 8, [811, 97, 810, 0], t_X8_serialOf)
def md_X8_pack : MD := (yX8_pack, cX8_pack, 2, (some .long), 2, 8, [574, 97, 573, 0], t_X8_pack)
def md_X8_valueOfThing : MD := (yX8_valueOfThing, cX8_valueOfThing, 1, (some .long), 1, 8, [852, 97, 851, 0], t_X8_valueOfThing)
def md_X8_truth : MD := (yX8_truth, cX8_truth, 1, (some .long), 1, 8, [621, 97, 620, 0], t_X8_truth)
def md_X8_kindOf : MD := (yX8_kindOf, cX8_kindOf, 2, (some .int), 1, 8, [488, 97, 487, 0], t_X8_kindOf)
def md_X8_numberOf : MD := (yX8_numberOf, cX8_numberOf, 2, (some .int), 1, 8, [609, 97, 608, 0], t_X8_numberOf)
def md_X8_isFalse : MD := (yX8_isFalse, cX8_isFalse, 2, (some .boolean), 1, 8, [629, 97, 628, 0], t_X8_isFalse)
def md_X8_isAmong : MD := (yX8_isAmong, cX8_isAmong, 3, (some .boolean), 2, 8, [485, 97, 484, 0], t_X8_isAmong)
def md_X8_told : MD := (yX8_told, cX8_told, 3, (some .int), 2, 8, [914, 97, 913, 0], t_X8_told)
def md_X9_init : MD := (yX9_init, cX9_init, 3, none, 2, 9, [952, 105, 951, 0], t_X9_init)
def md_X9_clear : MD := (yX9_clear, cX9_clear, 2, none, 0, 9, [959, 105, 958, 46], t_X9_clear)
def md_X9_asm : MD := (yX9_asm, cX9_asm, 4, (some .int), 3, 9, [1127, 105, 1125, 1126], t_X9_asm)
def md_X9_wipe : MD := (yX9_wipe, cX9_wipe, 2, (some .int), 0, 9, [1131, 105, 1129, 1130], t_X9_wipe)
def md_X9_isIn : MD := (yX9_isIn, cX9_isIn, 3, (some .boolean), 3, 9, [1143, 105, 1142, 0], t_X9_isIn)
def md_X9_aFits : MD := (yX9_aFits, cX9_aFits, 2, (some .boolean), 2, 9, [1138, 105, 1137, 0], t_X9_aFits)
def md_X9_bFits : MD := (yX9_bFits, cX9_bFits, 3, (some .boolean), 3, 9, [1150, 105, 1149, 0], t_X9_bFits)
def md_X9_namesLabel : MD := (yX9_namesLabel, cX9_namesLabel, 1, (some .boolean), 1, 9, [1153, 105, 1152, 0], t_X9_namesLabel)
def md_X9_faultOf : MD := (yX9_faultOf, cX9_faultOf, 2, (some .int), 1, 9, [1147, 105, 1146, 47], t_X9_faultOf)
def md_X9_link : MD := (yX9_link, cX9_link, 2, (some .int), 0, 9, [1135, 105, 1133, 1134], t_X9_link)
def md_X9_fault : MD := (yX9_fault, cX9_fault, 1, (some .int), 0, 9, [1157, 105, 1155, 1156], t_X9_fault)
def md_X9_sizeOf : MD := (yX9_sizeOf, cX9_sizeOf, 2, (some .int), 1, 9, [1258, 105, 1257, 70], t_X9_sizeOf)
def md_X9_mark : MD := (yX9_mark, cX9_mark, 3, none, 2, 9, [1254, 105, 1253, 69], t_X9_mark)
def md_X9_reach : MD := (yX9_reach, cX9_reach, 5, none, 1, 9, [1250, 105, 1249, 68], t_X9_reach)
def md_X9_free : MD := (yX9_free, cX9_free, 2, none, 1, 9, [1266, 105, 1265, 72], t_X9_free)
def md_X9_major : MD := (yX9_major, cX9_major, 3, (some .int), 0, 9, [1262, 105, 1261, 71], t_X9_major)
def md_X9_heldCells : MD := (yX9_heldCells, cX9_heldCells, 3, (some .int), 0, 9, [1246, 105, 1245, 67], t_X9_heldCells)
def md_X9_minor : MD := (yX9_minor, cX9_minor, 3, (some .boolean), 0, 9, [1242, 105, 1241, 66], t_X9_minor)
def md_X9_greatHas : MD := (yX9_greatHas, cX9_greatHas, 3, (some .boolean), 1, 9, [1270, 105, 1269, 73], t_X9_greatHas)
def md_X9_make : MD := (yX9_make, cX9_make, 4, (some .int), 1, 9, [1238, 105, 1237, 65], t_X9_make)
def md_X9_widen : MD := (yX9_widen, cX9_widen, 2, (some .boolean), 1, 9, [1314, 105, 1313, 84], t_X9_widen)
def md_X9_topKind : MD := (yX9_topKind, cX9_topKind, 2, (some .int), 1, 9, [1192, 105, 1191, 54], t_X9_topKind)
def md_X9_topNumber : MD := (yX9_topNumber, cX9_topNumber, 2, (some .int), 1, 9, [1196, 105, 1195, 55], t_X9_topNumber)
def md_X9_push : MD := (yX9_push, cX9_push, 3, none, 2, 9, [1184, 105, 1183, 52], t_X9_push)
def md_X9_ends : MD := (yX9_ends, cX9_ends, 2, (some .int), 1, 9, [1169, 105, 1168, 49], t_X9_ends)
def md_X9_well : MD := (yX9_well, cX9_well, 2, (some .int), 1, 9, [1188, 105, 1187, 53], t_X9_well)
def md_X9_chainOf : MD := (yX9_chainOf, cX9_chainOf, 3, (some .int), 2, 9, [1286, 105, 1285, 77], t_X9_chainOf)
def md_X9_ownSlot : MD := (yX9_ownSlot, cX9_ownSlot, 4, (some .int), 2, 9, [1290, 105, 1289, 78], t_X9_ownSlot)
def md_X9_find : MD := (yX9_find, cX9_find, 6, (some .int), 3, 9, [1282, 105, 1281, 76], t_X9_find)
def md_X9_touch : MD := (yX9_touch, cX9_touch, 2, none, 1, 9, [1318, 105, 1317, 85], t_X9_touch)
def md_X9_serialAt : MD := (yX9_serialAt, cX9_serialAt, 2, (some .int), 1, 9, [1302, 105, 1301, 81], t_X9_serialAt)
def md_X9_remembers : MD := (yX9_remembers, cX9_remembers, 6, (some .boolean), 3, 9, [1298, 105, 1297, 80], t_X9_remembers)
def md_X9_isCalm : MD := (yX9_isCalm, cX9_isCalm, 5, (some .boolean), 3, 9, [1306, 105, 1305, 82], t_X9_isCalm)
def md_X9_meet : MD := (yX9_meet, cX9_meet, 5, none, 3, 9, [1294, 105, 1293, 79], t_X9_meet)
def md_X9_wants : MD := (yX9_wants, cX9_wants, 2, (some .int), 2, 9, [1172, 105, 1171, 0], t_X9_wants)
def md_X9_put : MD := (yX9_put, cX9_put, 3, (some .int), 2, 9, [1180, 105, 1179, 51], t_X9_put)
def md_X9_reckon : MD := (yX9_reckon, cX9_reckon, 8, (some .int), 1, 9, [1228, 105, 1227, 63], t_X9_reckon)
def md_X9_fresh : MD := (yX9_fresh, cX9_fresh, 2, (some .int), 0, 9, [1234, 105, 1233, 64], t_X9_fresh)
def md_X9_copy : MD := (yX9_copy, cX9_copy, 4, (some .int), 0, 9, [1274, 105, 1273, 74], t_X9_copy)
def md_X9_get : MD := (yX9_get, cX9_get, 3, (some .int), 1, 9, [1278, 105, 1277, 75], t_X9_get)
def md_X9_set : MD := (yX9_set, cX9_set, 4, (some .int), 1, 9, [1310, 105, 1309, 83], t_X9_set)
def md_X9_drop : MD := (yX9_drop, cX9_drop, 5, (some .int), 1, 9, [1322, 105, 1321, 86], t_X9_drop)
def md_X9_parent : MD := (yX9_parent, cX9_parent, 2, (some .int), 0, 9, [1326, 105, 1325, 87], t_X9_parent)
def md_X9_adopt : MD := (yX9_adopt, cX9_adopt, 4, (some .int), 0, 9, [1330, 105, 1329, 88], t_X9_adopt)
def md_X9_proto : MD := (yX9_proto, cX9_proto, 2, (some .int), 1, 9, [1334, 105, 1333, 89], t_X9_proto)
def md_X9_send : MD := (yX9_send, cX9_send, 9, (some .int), 2, 9, [1338, 105, 1337, 90], t_X9_send)
def md_X9_giveBack : MD := (yX9_giveBack, cX9_giveBack, 3, (some .int), 0, 9, [1342, 105, 1341, 91], t_X9_giveBack)
def md_X9_print : MD := (yX9_print, cX9_print, 1, (some .int), 0, 9, [1346, 105, 1345, 92], t_X9_print)
def md_X9_local : MD := (yX9_local, cX9_local, 2, (some .int), 1, 9, [1216, 105, 1215, 60], t_X9_local)
def md_X9_store : MD := (yX9_store, cX9_store, 2, (some .int), 1, 9, [1220, 105, 1219, 61], t_X9_store)
def md_X9_keep : MD := (yX9_keep, cX9_keep, 2, (some .int), 1, 9, [1224, 105, 1223, 62], t_X9_keep)
def md_X9_isFalse : MD := (yX9_isFalse, cX9_isFalse, 1, (some .boolean), 0, 9, [1212, 105, 1211, 59], t_X9_isFalse)
def md_X9_unless : MD := (yX9_unless, cX9_unless, 3, (some .int), 1, 9, [1208, 105, 1207, 58], t_X9_unless)
def md_X9_swap : MD := (yX9_swap, cX9_swap, 3, (some .int), 0, 9, [1200, 105, 1199, 56], t_X9_swap)
def md_X9_answer : MD := (yX9_answer, cX9_answer, 3, (some .int), 2, 9, [1204, 105, 1203, 57], t_X9_answer)
def md_X9_simple : MD := (yX9_simple, cX9_simple, 3, (some .int), 2, 9, [1176, 105, 1175, 50], t_X9_simple)
def md_X9_oneStep : MD := (yX9_oneStep, cX9_oneStep, 3, (some .int), 0, 9, [1165, 105, 1164, 48], t_X9_oneStep)
def md_X9_step : MD := (yX9_step, cX9_step, 1, (some .int), 0, 9, [1161, 105, 1159, 1160], t_X9_step)
def md_X9_run : MD := (yX9_run, cX9_run, 3, (some .int), 1, 9, [1350, 105, 1348, 1349], t_X9_run)
def md_X9_restart : MD := (yX9_restart, cX9_restart, 2, (some .int), 0, 9, [1354, 105, 1352, 1353], t_X9_restart)
def md_X9_collectMinor : MD := (yX9_collectMinor, cX9_collectMinor, 1, (some .int), 0, 9, [1358, 105, 1356, 1357], t_X9_collectMinor)
def md_X9_collectMajor : MD := (yX9_collectMajor, cX9_collectMajor, 1, (some .int), 0, 9, [1362, 105, 1360, 1361], t_X9_collectMajor)
def md_X9_objects : MD := (yX9_objects, cX9_objects, 4, (some .int), 1, 9, [1370, 105, 1369, 93], t_X9_objects)
def md_X9_many : MD := (yX9_many, cX9_many, 2, (some .int), 1, 9, [1366, 105, 1364, 1365], t_X9_many)
def md_X9_tell : MD := (yX9_tell, cX9_tell, 4, (some .int), 3, 9, [1378, 105, 1377, 94], t_X9_tell)
def md_X9_pile : MD := (yX9_pile, cX9_pile, 3, (some .int), 2, 9, [1374, 105, 1372, 1373], t_X9_pile)
def md_X9_local_ : MD := (yX9_local_, cX9_local_, 4, (some .int), 2, 9, [1382, 105, 1380, 1381], t_X9_local_)
def md_X9_placeOf : MD := (yX9_placeOf, cX9_placeOf, 3, (some .int), 1, 9, [1390, 105, 1389, 95], t_X9_placeOf)
def md_X9_object : MD := (yX9_object, cX9_object, 4, (some .int), 2, 9, [1386, 105, 1384, 1385], t_X9_object)
def md_X9_slot : MD := (yX9_slot, cX9_slot, 6, (some .int), 3, 9, [1394, 105, 1392, 1393], t_X9_slot)
def md_X9_outSize : MD := (yX9_outSize, cX9_outSize, 1, (some .int), 0, 9, [1398, 105, 1396, 1397], t_X9_outSize)
def md_X9_out : MD := (yX9_out, cX9_out, 3, (some .int), 2, 9, [1402, 105, 1400, 1401], t_X9_out)
def md_J7_fill_d0a16 : MD := (yJ7_fill_d0a16, cJ7_fill_d0a16, 5, none, 2, 12, [379, 106, 378, 0], t_J7_fill_d0a16)
def md_J7_fill_53178 : MD := (yJ7_fill_53178, cJ7_fill_53178, 4, none, 2, 12, [419, 106, 418, 0], t_J7_fill_53178)
def md_L_cell : MD := (yL_cell, cL_cell, 2, (some .int), 2, 10, [947, 96, 946, 0], t_L_cell)
def prog_0 : List MD := [md_X0_init, md_X0_add, md_X0_wordAt, md_X0_placeOf, md_X0_forgetAll, md_X0_firstFault, md_X0_layLabels, md_X0_faultOf, md_X1_init, md_X1_begin, md_X1_hasLocal, md_X1_valueAt, md_X1_put, md_X2_init, md_X2_clear, md_X2_thingOf, md_X2_outward, md_X2_withSerial, md_X2_make, md_X2_addSlot]
def prog_1 : List MD := [md_X2_removeSlot, md_X2_hasRoomToMake, md_X2_hasRoomForSlot, md_X2_minor, md_X2_major, md_X2_youngLeft, md_X2_oldLeft, md_X2_freeUnmarked, md_X2_unused, md_X2_admit, md_X2_leaveNursery, md_X2_free, md_X2_youngMarked, md_X2_mark, md_X2_reachRow, md_X2_reach, md_X3_init, md_X3_isOf, md_X3_note, md_X3_hasNamesOf]
def prog_2 : List MD := [md_X4_init, md_X4_add, md_X4_kept, md_X5_init, md_X5_clear, md_X5_ofFrame, md_X5_fromAbove, md_X5_push, md_X5_take, md_X5_lower, md_X5_enter, md_X5_leave, md_X5_globalAt, md_X5_putGlobal, md_X5_protoOf, md_X5_putProto, md_X6_init, md_X6_size, md_X6_indexOf, md_X6_valueOf]
def prog_3 : List MD := [md_X6_copy, md_X7_init, md_X7_memory, md_X7_forget, md_X7_wanted, md_X7_kindsAbove, md_X7_kindsBelow, md_X7_isOperation, md_X7_isInRange, md_X7_goesToLabel, md_X7_mostOfA, md_X7_mostOfB, md_X8_init, md_X8_asm, md_X8_wipe, md_X8_link, md_X8_fault, md_X8_step, md_X8_run, md_X8_restart]
def prog_4 : List MD := [md_X8_collectMinor, md_X8_collectMajor, md_X8_many, md_X8_pile, md_X8_local, md_X8_object, md_X8_slot, md_X8_outSize, md_X8_out, md_X8_count, md_X8_unlink, md_X8_beginAnew, md_X8_advance, md_X8_valuesEnd, md_X8_roomEnd, md_X8_perform, md_X8_bring, md_X8_exchange, md_X8_letGo, md_X8_swap]
def prog_5 : List MD := [md_X8_reckon, md_X8_arithmetic, md_X8_jump, md_X8_store, md_X8_keep, md_X8_print, md_X8_giveBack, md_X8_makeNew, md_X8_makeCopy, md_X8_get, md_X8_set, md_X8_drop, md_X8_parent, md_X8_adopt, md_X8_proto, md_X8_send, md_X8_call, md_X8_answer, md_X8_chainOf, md_X8_finder]
def prog_6 : List MD := [md_X8_remember, md_X8_isUnchanged, md_X8_nearest, md_X8_serialOf, md_X8_pack, md_X8_valueOfThing, md_X8_truth, md_X8_kindOf, md_X8_numberOf, md_X8_isFalse, md_X8_isAmong, md_X8_told, md_X9_init, md_X9_clear, md_X9_asm, md_X9_wipe, md_X9_isIn, md_X9_aFits, md_X9_bFits, md_X9_namesLabel]
def prog_7 : List MD := [md_X9_faultOf, md_X9_link, md_X9_fault, md_X9_sizeOf, md_X9_mark, md_X9_reach, md_X9_free, md_X9_major, md_X9_heldCells, md_X9_minor, md_X9_greatHas, md_X9_make, md_X9_widen, md_X9_topKind, md_X9_topNumber, md_X9_push, md_X9_ends, md_X9_well, md_X9_chainOf, md_X9_ownSlot]
def prog_8 : List MD := [md_X9_find, md_X9_touch, md_X9_serialAt, md_X9_remembers, md_X9_isCalm, md_X9_meet, md_X9_wants, md_X9_put, md_X9_reckon, md_X9_fresh, md_X9_copy, md_X9_get, md_X9_set, md_X9_drop, md_X9_parent, md_X9_adopt, md_X9_proto, md_X9_send, md_X9_giveBack, md_X9_print]
def prog_9 : List MD := [md_X9_local, md_X9_store, md_X9_keep, md_X9_isFalse, md_X9_unless, md_X9_swap, md_X9_answer, md_X9_simple, md_X9_oneStep, md_X9_step, md_X9_run, md_X9_restart, md_X9_collectMinor, md_X9_collectMajor, md_X9_objects, md_X9_many, md_X9_tell, md_X9_pile, md_X9_local_, md_X9_placeOf]
def prog_10 : List MD := [md_X9_object, md_X9_slot, md_X9_outSize, md_X9_out, md_J7_fill_d0a16, md_J7_fill_53178, md_L_cell]
def prog : List MD := prog_0 ++ (prog_1 ++ (prog_2 ++ (prog_3 ++ (prog_4 ++ (prog_5 ++ (prog_6 ++ (prog_7 ++ (prog_8 ++ (prog_9 ++ (prog_10))))))))))
/-- the classes by number: the ten of the worlds, the law, Math, Arrays -/
def cN : List String := [RX0, RX1, RX2, RX3, RX4, RX5, RX6, RX7, RX8, RX9, RL, RJ9, RJ7]
def flo : List (List (Nat × Nat × Nat × Nat)) := [[(30, 7, 0, 131), (33, 7, 1, 134), (36, 7, 2, 137), (26, 0, 0, 151), (53, 0, 1, 154), (11, 0, 2, 155), (17, 0, 3, 156), (22, 0, 4, 157)], [(15, 1, 0, 183), (25, 1, 4, 191), (9, 1, 5, 192)], [(175, 1, 0, 185), (172, 1, 5, 193), (158, 5, 0, 210), (168, 5, 2, 215), (155, 5, 3, 217), (165, 5, 4, 219), (178, 5, 5, 221), (28, 2, 0, 254), (31, 2, 1, 256), (34, 2, 2, 258), (37, 2, 3, 260), (40, 2, 4, 262), (43, 2, 5, 264), (46, 2, 6, 266), (49, 2, 7, 268), (9, 2, 8, 270), (15, 2, 9, 271), (18, 2, 10, 272), (24, 2, 11, 273), (52, 2, 12, 274), (55, 2, 13, 275), (152, 2, 14, 276), (100, 6, 1, 702), (104, 6, 2, 705), (65, 6, 3, 707), (80, 6, 4, 711), (83, 6, 5, 713), (86, 6, 6, 716), (72, 6, 7, 718), (93, 6, 8, 719), (137, 6, 9, 721), (146, 6, 10, 722)], [(39, 6, 1, 701), (33, 6, 4, 710), (15, 3, 0, 787), (19, 3, 1, 790), (22, 3, 2, 791), (38, 3, 3, 792), (9, 3, 4, 793)], [(15, 4, 0, 314), (9, 4, 1, 316)], [(79, 1, 0, 184), (70, 1, 1, 187), (53, 1, 2, 188), (76, 1, 3, 189), (36, 5, 0, 208), (40, 5, 1, 211), (33, 5, 2, 213), (9, 5, 3, 216), (15, 5, 4, 218), (20, 5, 5, 220), (29, 5, 6, 222)], [(19, 6, 0, 698), (9, 6, 1, 700), (15, 6, 2, 704), (23, 6, 4, 709), (30, 6, 6, 715)], [(22, 7, 0, 132), (28, 7, 1, 135), (25, 7, 2, 138), (9, 7, 3, 140), (18, 3, 0, 788)], [(230, 7, 0, 133), (240, 7, 1, 136), (407, 7, 2, 139), (43, 0, 0, 152), (65, 0, 1, 153), (365, 1, 0, 186), (368, 1, 3, 190), (87, 5, 0, 209), (185, 5, 1, 212), (102, 5, 2, 214), (155, 2, 0, 255), (158, 2, 1, 257), (161, 2, 2, 259), (164, 2, 3, 261), (167, 2, 4, 263), (170, 2, 5, 265), (173, 2, 6, 267), (115, 2, 7, 269), (150, 4, 0, 315), (154, 4, 1, 317), (12, 8, 0, 323), (32, 8, 1, 324), (19, 8, 2, 325), (39, 8, 3, 326), (61, 8, 4, 327), (68, 8, 5, 328), (182, 8, 6, 329), (199, 8, 7, 330), (74, 8, 8, 331), (176, 8, 9, 332), (179, 8, 10, 333), (377, 6, 0, 699), (142, 6, 1, 703), (146, 6, 2, 706), (457, 6, 3, 708), (129, 6, 4, 712), (139, 6, 5, 714), (131, 6, 6, 717), (122, 6, 8, 720), (437, 3, 0, 789)], [(112, 9, 0, 960), (116, 9, 1, 961), (7, 9, 2, 962), (13, 9, 3, 963), (16, 9, 4, 964), (164, 9, 5, 965), (19, 9, 6, 966), (167, 9, 7, 967), (188, 9, 8, 968), (122, 9, 9, 969), (125, 9, 10, 970), (128, 9, 11, 971), (22, 9, 12, 972), (25, 9, 13, 973), (131, 9, 14, 974), (28, 9, 15, 975), (31, 9, 16, 976), (34, 9, 17, 977), (37, 9, 18, 978), (40, 9, 19, 979), (43, 9, 20, 980), (46, 9, 21, 981), (134, 9, 22, 982), (49, 9, 23, 983), (52, 9, 24, 984), (55, 9, 25, 985), (58, 9, 26, 986), (61, 9, 27, 987), (137, 9, 28, 988), (64, 9, 29, 989), (67, 9, 30, 990), (71, 9, 31, 991), (74, 9, 32, 992), (77, 9, 33, 993), (81, 9, 34, 994), (84, 9, 35, 995), (87, 9, 36, 996), (90, 9, 37, 997), (93, 9, 38, 998), (195, 9, 39, 999), (140, 9, 40, 1000), (143, 9, 41, 1001), (146, 9, 42, 1002), (149, 9, 43, 1003), (152, 9, 44, 1004), (155, 9, 45, 1005), (220, 9, 46, 1006), (96, 9, 47, 1007), (99, 9, 48, 1008), (102, 9, 49, 1009), (106, 9, 50, 1010), (109, 9, 51, 1011), (158, 9, 52, 1012), (161, 9, 53, 1013)], [], [], []]
def mlo : List (List (Nat × Nat × Nat × Nat)) := [[(3, 6, 0, 123), (21, 5, 61, 127), (39, 0, 2, 389), (43, 0, 63, 393), (46, 0, 6, 413), (56, 1, 205, 417), (62, 0, 68, 420), (66, 0, 3, 434), (49, 0, 7, 438), (70, 0, 67, 442), (73, 0, 69, 446)], [(3, 6, 0, 182), (19, 1, 204, 377), (29, 0, 10, 646)], [(3, 6, 0, 252), (89, 0, 25, 501), (114, 0, 23, 505), (123, 0, 33, 509), (161, 0, 34, 513), (61, 0, 15, 517), (181, 0, 35, 522), (127, 0, 32, 526), (140, 0, 57, 530), (117, 0, 26, 534), (130, 0, 27, 538), (143, 0, 31, 542), (96, 0, 29, 546), (133, 0, 30, 550), (120, 0, 24, 554), (68, 4, 124, 676), (76, 0, 28, 689), (149, 2, 56, 694), (108, 7, 0, 845)], [(3, 6, 0, 786), (25, 4, 123, 809), (29, 0, 39, 812), (40, 7, 0, 823)], [(3, 6, 0, 313), (19, 9, 0, 944)], [(3, 6, 0, 174), (26, 2, 8, 179), (43, 0, 9, 373), (47, 1, 204, 380), (64, 8, 0, 592), (56, 0, 46, 601), (60, 0, 49, 602), (82, 0, 47, 667), (73, 0, 12, 877)], [(3, 6, 0, 697), (34, 7, 0, 755), (26, 0, 58, 828)], [(3, 6, 0, 130), (32, 0, 70, 425), (36, 0, 71, 430), (17, 5, 36, 783)], [(3, 6, 0, 115), (11, 5, 0, 120), (18, 2, 43, 171), (25, 1, 122, 240), (448, 9, 0, 243), (454, 8, 0, 246), (29, 2, 13, 249), (38, 5, 40, 310), (47, 0, 90, 361), (58, 0, 91, 365), (188, 0, 44, 369), (191, 0, 14, 381), (192, 0, 4, 385), (50, 0, 1, 397), (54, 0, 5, 409), (71, 0, 92, 458), (195, 0, 2, 462), (202, 0, 93, 463), (212, 0, 64, 467), (217, 0, 45, 471), (90, 0, 46, 475), (220, 0, 65, 479), (223, 1, 130, 483), (410, 1, 127, 486), (227, 0, 66, 489), (206, 0, 94, 493), (233, 0, 21, 497), (236, 0, 15, 558), (127, 0, 57, 559), (243, 0, 58, 560), (246, 0, 22, 564), (209, 0, 95, 568), (250, 1, 124, 572), (254, 0, 96, 576), (337, 0, 47, 580), (258, 0, 98, 584), (340, 0, 49, 588), (261, 0, 99, 593), (278, 0, 48, 597), (264, 0, 100, 603), (344, 1, 128, 607), (347, 1, 101, 610), (271, 0, 97, 615), (267, 1, 126, 619), (275, 0, 102, 622), (295, 0, 3, 626), (282, 1, 129, 627), (106, 0, 10, 630), (112, 0, 11, 634), (286, 0, 103, 638), (355, 0, 12, 642), (289, 0, 52, 647), (292, 0, 104, 651), (359, 0, 53, 655), (298, 0, 106, 659), (371, 0, 51, 663), (301, 0, 105, 668), (94, 0, 16, 672), (362, 0, 41, 677), (304, 0, 107, 681), (374, 0, 18, 685), (307, 0, 108, 747), (380, 0, 60, 751), (310, 0, 109, 758), (319, 0, 118, 762), (424, 0, 54, 766), (322, 1, 119, 770), (384, 0, 120, 773), (427, 0, 62, 777), (431, 0, 37, 805), (440, 1, 121, 816), (444, 0, 38, 819), (388, 0, 59, 824), (313, 0, 110, 829), (391, 0, 19, 833), (316, 0, 111, 837), (395, 0, 20, 841), (326, 0, 112, 846), (399, 1, 125, 850), (328, 0, 113, 853), (331, 0, 114, 857), (403, 0, 55, 861), (334, 0, 115, 865), (413, 0, 116, 869), (420, 0, 50, 873), (417, 0, 117, 878), (77, 0, 23, 894), (80, 0, 24, 899), (83, 0, 89, 904), (98, 1, 131, 912), (118, 0, 17, 923), (135, 1, 123, 927), (151, 0, 42, 940)], [(1, 6, 0, 953), (119, 0, 133, 956), (177, 1, 137, 1136), (173, 1, 136, 1141), (191, 0, 140, 1144), (181, 1, 138, 1148), (184, 1, 139, 1151), (349, 0, 188, 1162), (246, 0, 156, 1166), (310, 1, 166, 1170), (313, 0, 187, 1173), (282, 0, 167, 1177), (249, 0, 155, 1181), (252, 0, 157, 1185), (255, 0, 153, 1189), (258, 0, 154, 1193), (288, 0, 185, 1197), (291, 0, 186, 1201), (295, 0, 184, 1205), (285, 0, 183, 1209), (298, 0, 180, 1213), (301, 0, 181, 1217), (304, 0, 182, 1221), (307, 0, 168, 1225), (316, 0, 169, 1231), (265, 0, 151, 1235), (223, 0, 149, 1239), (213, 0, 148, 1243), (205, 0, 145, 1247), (198, 0, 144, 1251), (202, 0, 143, 1255), (217, 0, 147, 1259), (209, 0, 146, 1263), (227, 0, 150, 1267), (319, 0, 170, 1271), (322, 0, 171, 1275), (268, 0, 160, 1279), (230, 0, 158, 1283), (234, 0, 159, 1287), (272, 0, 165, 1291), (240, 0, 163, 1295), (237, 0, 162, 1299), (243, 0, 164, 1303), (325, 0, 172, 1307), (276, 0, 152, 1311), (279, 0, 161, 1315), (328, 0, 173, 1319), (331, 0, 174, 1323), (334, 0, 175, 1327), (337, 0, 176, 1331), (340, 0, 177, 1335), (343, 0, 178, 1339), (346, 0, 179, 1343), (352, 0, 194, 1367), (356, 0, 196, 1375), (359, 0, 199, 1387)], [(15, 2, 72, 112), (21, 0, 73, 357), (26, 0, 74, 401), (31, 0, 75, 405), (35, 0, 76, 450), (39, 0, 77, 454), (43, 0, 78, 882), (48, 0, 79, 886), (52, 0, 80, 890), (56, 0, 81, 895), (60, 0, 82, 900), (64, 0, 83, 908), (69, 0, 84, 915), (73, 0, 85, 919), (77, 0, 86, 928), (81, 0, 87, 932), (85, 0, 88, 936), (9, 1, 206, 945), (20, 2, 132, 950), (25, 0, 134, 1124), (30, 0, 135, 1128), (34, 0, 141, 1132), (38, 0, 142, 1154), (42, 0, 189, 1158), (47, 0, 190, 1347), (51, 0, 191, 1351), (55, 0, 192, 1355), (59, 0, 193, 1359), (63, 0, 195, 1363), (68, 0, 197, 1371), (72, 0, 198, 1379), (76, 0, 200, 1383), (80, 0, 201, 1391), (84, 0, 202, 1395), (88, 0, 203, 1399)], [], []]
def clo : List (List (Nat × Nat × Nat × Nat × Nat)) := [[(9, 7, 124, 126, 99)], [], [(22, 6, 253, 693, 107)], [], [], [(18, 6, 175, 693, 107), (24, 1, 177, 178, 101)], [], [(15, 3, 781, 782, 109)], [(9, 0, 118, 119, 98), (16, 5, 169, 170, 100), (23, 2, 238, 239, 102), (36, 4, 308, 309, 104)], [], [(7, 8, 110, 111, 97), (18, 9, 948, 949, 105)], [], []]
def qlo : List (List (Nat × Nat × Nat)) := [[(9, 4, 124)], [], [(22, 5, 253)], [], [], [(18, 5, 175)], [], [], [], [], [], [], []]
def klo : List (List (Nat × Int32 × Nat)) := [[], [], [], [], [], [], [], [(31, (-1073741824 : Int32), 424), (39, (1073741823 : Int32), 429)], [], [(80, (60000 : Int32), 954), (105, (80000 : Int32), 955), (171, (-1073741824 : Int32), 1139), (172, (1073741823 : Int32), 1140)], [], [], []]
def jlo : List (List (Nat × Int64 × Nat)) := [[], [], [(59, (2 : Int64), 521)], [], [], [], [], [], [(460, (4294967295 : Int64), 575), (351, (-1073741824 : Int64), 613), (353, (1073741823 : Int64), 614)], [(261, (-1073741824 : Int64), 1229), (263, (1073741823 : Int64), 1230)], [], [], []]
def nest : List (Nat × Cond) := [(120, .methodLinkNest RX8 11 yX0_init RX8), (127, .methodLinkNest RX0 21 yX7_init RX8), (310, .methodLinkNest RX8 38 yX4_init RX8), (676, .methodLinkNest RX2 68 yX8_pack RX8), (783, .methodLinkNest RX7 17 yX3_init RX8), (809, .methodLinkNest RX3 25 yX8_serialOf RX8)]
/-- places of single words: objectInit instance, its code, arraycopy native, static, System initialized, array classes int long byte boolean, arrayOver Word, Thing -/
def wpl : List Nat := [116, 117, 757, 756, 108] ++ [150, 207, 746, 1123] ++ [125, 176, 247, 248, 244, 245, 103]
end
section
def fTy : List (List FieldType) := [[.int, .int, .array (.object "ProtoMachine$Word"), .array .int, .object "ProtoMachine$Word"], [.object "ProtoMachine$Frame", .object "ProtoMachine$Frame", .int, .int, .int, .array .long], [.int, .int, .int, .int, .int, .int, .int, .int, .int, .int, .object "ProtoMachine$Roots", .array (.object "ProtoMachine$Thing"), .int, .object "ProtoMachine$Thing", .object "ProtoMachine$Thing"], [.int, .int, .int, .int, .array .byte], [.int, .array .long], [.int, .int, .object "ProtoMachine$Frame", .array .long, .array .long, .array (.object "ProtoMachine$Thing"), .object "ProtoMachine$Frame"], [.int, .array .byte, .array .long, .int, .int, .int, .object "ProtoMachine$Thing", .boolean, .boolean, .boolean, .object "ProtoMachine$Thing"], [.int, .int, .int, .object "ProtoMachine$Memory"], [.object "ProtoMachine$Code", .object "ProtoMachine$Heap", .object "ProtoMachine$Roots", .object "ProtoMachine$Output", .boolean, .int, .int, .int, .int, .int, .int], [.int, .int, .array .int, .array .int, .array .int, .int, .array .int, .boolean, .int, .int, .int, .int, .array .int, .array .int, .int, .array .int, .array .int, .array .int, .array .int, .array .int, .array .int, .array .int, .int, .array .int, .array .int, .array .int, .array .int, .array .int, .int, .array .int, .array .boolean, .array .int, .array .int, .array .int, .array .int, .array .int, .array .int, .array .boolean, .array .int, .int, .int, .int, .int, .int, .int, .int, .int, .array .int, .array .int, .array .int, .array .int, .array .int, .int, .int]]
def fFi : List (List Bool) := [[false, false, true, true, true], [true, false, false, false, false, true], [false, false, false, false, false, false, false, false, true, true, true, true, false, false, false], [false, false, false, false, true], [false, true], [false, false, false, true, true, true, true], [true, true, true, false, false, false, false, false, false, false, false], [false, false, false, false], [true, true, true, true, false, false, false, false, false, false, false], [true, true, true, true, true, false, true, false, false, false, false, false, true, true, false, true, true, true, true, true, true, true, false, true, true, true, true, true, false, true, true, true, true, true, true, true, true, true, true, false, false, false, false, false, false, false, false, true, true, true, true, true, false, false]]
def dfl : List (List Value) := [[.int 0, .int 0, .null, .null, .null], [.null, .null, .int 0, .int 0, .int 0, .null], [.int 0, .int 0, .int 0, .int 0, .int 0, .int 0, .int 0, .int 0, .int 0, .int 0, .null, .null, .int 0, .null, .null], [.int 0, .int 0, .int 0, .int 0, .null], [.int 0, .null], [.int 0, .int 0, .null, .null, .null, .null, .null], [.int 0, .null, .null, .int 0, .int 0, .int 0, .null, .int 0, .int 0, .int 0, .null], [.int 0, .int 0, .int 0, .null], [.null, .null, .null, .null, .int 0, .int 0, .int 0, .int 0, .int 0, .int 0, .int 0], [.int 0, .int 0, .null, .null, .null, .int 0, .null, .int 0, .int 0, .int 0, .int 0, .int 0, .null, .null, .int 0, .null, .null, .null, .null, .null, .null, .null, .int 0, .null, .null, .null, .null, .null, .int 0, .null, .null, .null, .null, .null, .null, .null, .null, .null, .null, .int 0, .int 0, .int 0, .int 0, .int 0, .int 0, .int 0, .int 0, .null, .null, .null, .null, .null, .int 0, .int 0]]
def lay : List (List Nat) := [[158, 160, 162, 164, 166], [194, 196, 198, 200, 202, 204], [277, 279, 281, 283, 285, 287, 289, 291, 293, 295, 297, 299, 301, 303, 305], [794, 796, 798, 800, 802], [318, 320], [223, 225, 227, 229, 231, 233, 235], [723, 725, 727, 729, 731, 733, 735, 737, 739, 741, 743], [141, 143, 145, 147], [334, 336, 338, 340, 342, 344, 346, 348, 350, 352, 354], [1014, 1016, 1018, 1020, 1022, 1024, 1026, 1028, 1030, 1032, 1034, 1036, 1038, 1040, 1042, 1044, 1046, 1048, 1050, 1052, 1054, 1056, 1058, 1060, 1062, 1064, 1066, 1068, 1070, 1072, 1074, 1076, 1078, 1080, 1082, 1084, 1086, 1088, 1090, 1092, 1094, 1096, 1098, 1100, 1102, 1104, 1106, 1108, 1110, 1112, 1114, 1116, 1118, 1120]]

/-- the good words of the tables -/
def gt : List Cond := lw_tbl.filter goodWord
def wg (i : Nat) (w : Cond) : Bool := decide (lw_tbl[i]? = some w) && goodWord w
theorem wg_in {i : Nat} {w : Cond} (h : wg i w = true) : w ∈ gt := by
  simp only [wg, Bool.and_eq_true, decide_eq_true_eq] at h
  exact List.mem_filter.mpr ⟨List.mem_of_getElem? h.1, h.2⟩
theorem lk_mem {α : Type} {i : Nat} {b : α} : ∀ {l : List (Nat × α)}, l.lookup i = some b → (i, b) ∈ l
  | [], h => by simp at h
  | (a, c) :: l, h => by
    rw [List.lookup_cons] at h
    by_cases e : i = a
    · subst e
      simp at h
      subst h
      exact List.mem_cons_self
    · have e' : (i == a) = false := by simpa using e
      rw [e'] at h
      exact List.mem_cons_of_mem _ (lk_mem h)
def fres (oc i : Nat) : Option (Nat × Nat × Nat) := (flo.getD oc []).lookup i
def mres (oc i : Nat) : Option (Nat × Nat × Nat) := (mlo.getD oc []).lookup i
def cres (oc i : Nat) : Option (Nat × Nat × Nat × Nat) := (clo.getD oc []).lookup i
def qres (oc i : Nat) : Option (Nat × Nat) := (qlo.getD oc []).lookup i
def kres (oc i : Nat) : Option (Int32 × Nat) := (klo.getD oc []).lookup i
def jres (oc i : Nat) : Option (Int64 × Nat) := (jlo.getD oc []).lookup i
def okF (oc : Nat) (q : Nat × Nat × Nat × Nat) : Bool := match cN[oc]?, vwCl[q.2.1]? with
  | some o, some r => decide (q.2.2.1 < r.2.2) && wg q.2.2.2 (.fieldLink o q.1 (r.2.1 q.2.2.1).1 (r.2.1 q.2.2.1).2.1 (r.2.1 q.2.2.1).2.2.1)
  | _, _ => false
def okK (oc : Nat) (q : Nat × Nat × Nat × Nat) : Bool := match cN[oc]?, prog[q.2.2.1]? with
  | some o, some md => match q.2.1 with
    | 0 => wg q.2.2.2 (.methodLink o q.1 md.1) && wg (md.2.2.2.2.2.2.1.getD 2 0) (.instanceMethod md.1) && wg (md.2.2.2.2.2.2.1.getD 3 0) (.selects md.1.cls md.1 md.1)
    | 1 => wg q.2.2.2 (.methodLink o q.1 md.1) && wg (md.2.2.2.2.2.2.1.getD 2 0) (.static md.1)
    | 2 => wg q.2.2.2 (.methodLink o q.1 md.1) && wg (md.2.2.2.2.2.2.1.getD 2 0) (.instanceMethod md.1) && decide (md.1.name = "<init>") && decide (md.2.2.2.1 = none)
    | 4 => decide ((q.2.2.2, Cond.methodLinkNest o q.1 md.1 RX8) ∈ nest) && wg (md.2.2.2.2.2.2.1.getD 2 0) (.static md.1)
    | 5 => decide ((q.2.2.2, Cond.methodLinkNest o q.1 md.1 RX8) ∈ nest) && wg (md.2.2.2.2.2.2.1.getD 2 0) (.instanceMethod md.1) && decide (md.1.name = "<init>") && decide (md.2.2.2.1 = none)
    | 6 => wg q.2.2.2 (.methodLink o q.1 objectInit)
    | 7 => wg q.2.2.2 (.methodLink o q.1 arraycopyName)
    | 8 => wg q.2.2.2 (.methodLink o q.1 Lib.Math.max.name)
    | 9 => wg q.2.2.2 (.methodLink o q.1 Lib.Math.min.name)
    | _ => false
  | _, _ => false
def okC (oc : Nat) (q : Nat × Nat × Nat × Nat × Nat) : Bool := match cN[oc]?, vwCl[q.2.1]? with
  | some o, some r => wg q.2.2.1 (.classLink o q.1 r.1) && wg q.2.2.2.1 (.instantiable r.1 r.2.2) && wg q.2.2.2.2 (.initialized r.1)
  | _, _ => false
def aC : List String := ["", "", "", "", RX7, RX6]
def okQ (oc : Nat) (q : Nat × Nat × Nat) : Bool := match cN[oc]? with
  | some o => (decide (q.2.1 = 4) || decide (q.2.1 = 5)) && wg q.2.2 (.classLink o q.1 (aC.getD q.2.1 ""))
  | none => false
def okI (oc : Nat) (q : Nat × Int32 × Nat) : Bool := match cN[oc]? with
  | some o => wg q.2.2 (.constant o q.1 q.2.1)
  | none => false
def okJ (oc : Nat) (q : Nat × Int64 × Nat) : Bool := match cN[oc]? with
  | some o => wg q.2.2 (.constantLong o q.1 q.2.1)
  | none => false
theorem flo_ok : (List.range 13).all (fun oc => (flo.getD oc []).all (okF oc)) = true := by decide +kernel
theorem mlo_ok : (List.range 13).all (fun oc => (mlo.getD oc []).all (okK oc)) = true := by decide +kernel
theorem clo_ok : (List.range 13).all (fun oc => (clo.getD oc []).all (okC oc)) = true := by decide +kernel
theorem qlo_ok : (List.range 13).all (fun oc => (qlo.getD oc []).all (okQ oc)) = true := by decide +kernel
theorem klo_ok : (List.range 13).all (fun oc => (klo.getD oc []).all (okI oc)) = true := by decide +kernel
theorem jlo_ok : (List.range 13).all (fun oc => (jlo.getD oc []).all (okJ oc)) = true := by decide +kernel
theorem res_ok {α : Type} {T : List (List (Nat × α))} {ok : Nat → Nat × α → Bool} (hl : T.length = 13) (h : (List.range 13).all (fun oc => (T.getD oc []).all (ok oc)) = true) {oc i : Nat} {b : α} (hr : (T.getD oc []).lookup i = some b) : ok oc (i, b) = true := by
  have hm := lk_mem hr
  have ho : oc < 13 := by
    apply Classical.byContradiction
    intro hn
    rw [List.getD_eq_getElem?_getD, List.getElem?_eq_none (by omega)] at hm
    simp at hm
  have h1 := List.all_eq_true.mp h oc (List.mem_range.mpr ho)
  exact List.all_eq_true.mp h1 _ hm
theorem fres_ok {oc i : Nat} {b : Nat × Nat × Nat} (h : fres oc i = some b) : okF oc (i, b) = true := res_ok rfl flo_ok h
theorem mres_ok {oc i : Nat} {b : Nat × Nat × Nat} (h : mres oc i = some b) : okK oc (i, b) = true := res_ok rfl mlo_ok h
theorem cres_ok {oc i : Nat} {b : Nat × Nat × Nat × Nat} (h : cres oc i = some b) : okC oc (i, b) = true := res_ok rfl clo_ok h
theorem qres_ok {oc i : Nat} {b : Nat × Nat} (h : qres oc i = some b) : okQ oc (i, b) = true := res_ok rfl qlo_ok h
theorem kres_ok {oc i : Nat} {b : Int32 × Nat} (h : kres oc i = some b) : okI oc (i, b) = true := res_ok rfl klo_ok h
theorem jres_ok {oc i : Nat} {b : Int64 × Nat} (h : jres oc i = some b) : okJ oc (i, b) = true := res_ok rfl jlo_ok h
theorem nest_ok : nest.all (fun q => decide (lw_tbl[q.1]? = some q.2)) = true := by decide +kernel
theorem wpl_ok : wg (wpl.getD 0 0) (.instanceMethod objectInit) && wg (wpl.getD 1 0) (.code objectInit ⟨#[0xb1]⟩ 1 none) && wg (wpl.getD 2 0) (.native arraycopyName) && wg (wpl.getD 3 0) (.static arraycopyName) && wg (wpl.getD 4 0) (.initialized "java/lang/System") && wg (wpl.getD 5 0) (.arrayClass .int) && wg (wpl.getD 6 0) (.arrayClass .long) && wg (wpl.getD 7 0) (.arrayClass .byte) && wg (wpl.getD 8 0) (.arrayClass .boolean) = true := by decide +kernel
theorem wpm_ok : (wg (wpl.getD 11 0) (.static Lib.Math.max.name) && wg (wpl.getD 12 0) (.code Lib.Math.max.name Lib.Math.max.code 2 (some .int)) && wg (wpl.getD 13 0) (.static Lib.Math.min.name) && wg (wpl.getD 14 0) (.code Lib.Math.min.name Lib.Math.min.code 2 (some .int)) && wg (wpl.getD 15 0) (.initialized "java/lang/Math")) = true := by decide +kernel
theorem over_ok : decide (lw_tbl[wpl.getD 9 0]? = some (.arrayOver (.object RX7))) && decide (lw_tbl[wpl.getD 10 0]? = some (.arrayOver (.object RX6))) = true := by decide +kernel
def okL (ci : Nat) : Bool := match vwCl[ci]? with
  | some r => (List.range r.2.2).all (fun k => wg ((lay.getD ci []).getD k 0) (u_lay r.1 r.2.1 k) && decide (parseFieldDescriptor (r.2.1 k).2.2.1 = some ((fTy.getD ci []).getD k .int)) && decide ((r.2.1 k).2.2.2 = (fFi.getD ci []).getD k false) && decide ((r.2.1 k).1 = cN.getD ci "") && decide (defaultValue ((fTy.getD ci []).getD k .int) = vp_V (dfl.getD ci []) k)) && decide ((dfl.getD ci []).length = r.2.2) && decide (cN[ci]? = some r.1)
  | none => true
theorem lay_ok : (List.range 10).all okL = true := by decide +kernel
theorem nm_ok {ci : Nat} {r : vw_C} (h : vwCl[ci]? = some r) : ∀ a, a < r.2.2 → ∀ b, b < r.2.2 → a ≠ b → (r.2.1 a).2.1 ≠ (r.2.1 b).2.1 := by
  match ci, h with
  | 0, h => cases h; exact nmX0
  | 1, h => cases h; exact nmX1
  | 2, h => cases h; exact nmX2
  | 3, h => cases h; exact nmX3
  | 4, h => cases h; exact nmX4
  | 5, h => cases h; exact nmX5
  | 6, h => cases h; exact nmX6
  | 7, h => cases h; exact nmX7
  | 8, h => cases h; exact nmX8
  | 9, h => cases h; exact nmX9
  | k + 10, h => simp [vwCl] at h
theorem cl_lt {ci : Nat} {r : vw_C} (h : vwCl[ci]? = some r) : ci < 10 := (List.getElem?_eq_some_iff.mp h).1
theorem cl_lay {ci : Nat} {r : vw_C} (h : vwCl[ci]? = some r) : ∀ w ∈ u_ws r.1 r.2.1 r.2.2, w ∈ gt := by
  have h1 := List.all_eq_true.mp lay_ok ci (List.mem_range.mpr (cl_lt h))
  simp only [okL, h, Bool.and_eq_true] at h1
  intro w hw
  obtain ⟨k, hk, rfl⟩ := List.mem_map.mp hw
  have h2 := List.all_eq_true.mp h1.1.1 k hk
  simp only [Bool.and_eq_true] at h2
  exact wg_in h2.1.1.1.1
theorem cl_fld {ci k : Nat} {r : vw_C} (h : vwCl[ci]? = some r) (hk : k < r.2.2) : parseFieldDescriptor (r.2.1 k).2.2.1 = some ((fTy.getD ci []).getD k .int) ∧ (r.2.1 k).2.2.2 = (fFi.getD ci []).getD k false ∧ (r.2.1 k).1 = cN.getD ci "" ∧ defaultValue ((fTy.getD ci []).getD k .int) = vp_V (dfl.getD ci []) k := by
  have h1 := List.all_eq_true.mp lay_ok ci (List.mem_range.mpr (cl_lt h))
  simp only [okL, h, Bool.and_eq_true] at h1
  have h2 := List.all_eq_true.mp h1.1.1 k (List.mem_range.mpr hk)
  simp only [Bool.and_eq_true, decide_eq_true_eq] at h2
  exact ⟨h2.1.1.1.2, h2.1.1.2, h2.1.2, h2.2⟩
theorem cl_len {ci : Nat} {r : vw_C} (h : vwCl[ci]? = some r) : (dfl.getD ci []).length = r.2.2 ∧ cN[ci]? = some r.1 := by
  have h1 := List.all_eq_true.mp lay_ok ci (List.mem_range.mpr (cl_lt h))
  simp only [okL, h, Bool.and_eq_true, decide_eq_true_eq] at h1
  exact ⟨h1.1.2, h1.2⟩
end
section
/-- the lengths of the instructions that the engine knows -/
def iln : Instr → Nat → Bool
  | .tableswitch _ lo hi offs, _ => decide (lo ≤ hi) && decide (offs.size = (hi - lo + 1).toNat)
  | .lookupswitch _ ps, _ => (ps.toList.zip (ps.toList.drop 1)).all (fun (a, next) => a.1 < next.1)
  | .aload _, n | .iload _, n | .lload _, n | .astore _, n | .istore _, n | .lstore _, n | .bipush _, n | .newarray _, n | .ldc _, n => n == 2
  | .sipush _, n | .ldc2_w _, n | .iinc _ _, n | .if_icmp _ _, n | .ifCond _ _, n | .ifnull _, n | .ifnonnull _, n | .if_acmp _ _, n | .goto _, n | .getfield _, n | .putfield _, n | .new _, n | .anewarray _, n | .invokevirtual _, n | .invokestatic _, n | .invokespecial _, n => n == 3
  | _, n => n == 1
/-- jumps go to no place below 0; stores go to locals that the method has; a final field is written by its class's constructor alone -/
def ijp (L o : Nat) (ini : Bool) (pc : Nat) : Instr → Bool
  | .if_icmp _ f | .ifCond _ f | .ifnull f | .ifnonnull f | .if_acmp _ f | .goto f => decide (0 ≤ (pc : Int) + f)
  | .tableswitch d _ _ offs => decide (0 ≤ (pc : Int) + d) && offs.all (fun f => decide (0 ≤ (pc : Int) + f))
  | .lookupswitch d ps => decide (0 ≤ (pc : Int) + d) && ps.all (fun f => decide (0 ≤ (pc : Int) + f.2))
  | .istore i | .astore i | .iinc i _ => decide (i < L)
  | .istore_n i | .astore_n i => decide (i.val < L)
  | .lstore i => decide (i + 1 < L)
  | .lstore_n i => decide (i.val + 1 < L)
  | .putfield i => match fres o i with
    | some (ci, k, _) => !((fFi.getD ci []).getD k false) || (ini && decide (ci = o))
    | none => false
  | _ => true
def okT (c : ByteArray) (L o : Nat) (ini : Bool) (t : List (Nat × Instr × Nat)) : Bool := t.all (fun q => decide (decode c q.1 = .ok q.2) && iln q.2.1 q.2.2 && ijp L o ini q.1 q.2.1)
def okM0 (md : MD) : Bool := wg (md.2.2.2.2.2.2.1.getD 0 0) (.code md.1 md.2.1 md.2.2.1 md.2.2.2.1) && wg (md.2.2.2.2.2.2.1.getD 1 0) (.initialized md.1.cls) && decide (md.1.cls ≠ "java/lang/invoke/MethodHandle") && decide (md.1.cls ≠ "java/lang/invoke/VarHandle") && decide ((parseMethodDescriptor md.1.desc).map (fun d => d.parameters.length) = some md.2.2.2.2.1) && decide (md.2.2.1 ≤ 19) && plainName md.1.cls && decide (cN[md.2.2.2.2.2.1]? = some md.1.cls)
def okMD (md : MD) : Bool := okM0 md && okT md.2.1 md.2.2.1 md.2.2.2.2.2.1 (decide (md.1.name = "<init>")) md.2.2.2.2.2.2.2
theorem okT_cut {c : ByteArray} {L o : Nat} {ini : Bool} {t : List (Nat × Instr × Nat)} (k : Nat) (h1 : okT c L o ini (t.take k) = true) (h2 : okT c L o ini (t.drop k) = true) : okT c L o ini t = true := by
  unfold okT at h1 h2 ⊢
  rw [← List.take_append_drop k t, List.all_append, h1, h2]
  rfl
theorem okMD_of {md : MD} (h1 : okM0 md = true) (h2 : okT md.2.1 md.2.2.1 md.2.2.2.2.2.1 (decide (md.1.name = "<init>")) md.2.2.2.2.2.2.2 = true) : okMD md = true := by
  unfold okMD
  rw [h1, h2]
  rfl
end
section
/-! ===== THE ENGINE: a symbolic executor of the decoded bytecode over a plain heap ===== -/
/-- the heap that the law makes: cell i lies at the address z + i. An array's first number is its kind: 0 int, 1 long, 2 byte, 3 boolean, 4 Word[], 5 Thing[] -/
abbrev Hp : Type := List va_E
abbrev Lv : Type := List (Nat × Value)
abbrev aI (n : Nat) (f : Nat → Int32) : va_E := .inl (0, n, .inl f)
abbrev aJ (n : Nat) (f : Nat → Int64) : va_E := .inl (1, n, .inr (.inl f))
abbrev aB (n : Nat) (f : Nat → Int32) : va_E := .inl (2, n, .inl f)
abbrev aZ (n : Nat) (f : Nat → Int32) : va_E := .inl (3, n, .inl f)
abbrev aR (t n : Nat) (f : Nat → Option Nat) : va_E := .inl (t, n, .inr (.inr (.inr (.inr f))))
abbrev oB (ci : Nat) (fs : List Value) : va_E := .inr (ci, fs)
/-- the cell at an address: the script's, or one of ours -/
def cel (z b L : Nat) (xs : Nat → Int32) (σ : Hp) (a : Nat) : Option va_E := if z ≤ a then σ[a - z]? else if a = b then some (aI L xs) else none
def upc (z : Nat) (σ : Hp) (a : Nat) (e : va_E) : Hp := σ.set (a - z) e
def nF (ci : Nat) : Nat := (dfl.getD ci []).length
def esz : va_E → Nat
  | .inl x => x.2.1
  | .inr o => nF o.1
def szH (σ : Hp) : Nat := (σ.map esz).sum
/-- what may stand in a field or come out of a method -/
def fitV : FieldType → Value → Prop
  | .int, .int _ => True
  | .boolean, .int x => x = 0 ∨ x = 1
  | .long, .long _ => True
  | .object _, .null => True
  | .object _, .ref _ => True
  | .array _, .null => True
  | .array _, .ref _ => True
  | _, _ => False
def wgt (r : List Value) : Nat := (r.map fun v => v.category).sum
def lvs (i : Nat) (v : Value) (lv : Lv) : Lv := (i, v) :: lv.filter (fun q => !(q.1 == i) && !(q.1 + 1 == i && q.2.category == 2))
def lvl (i : Nat) (v : Value) (lv : Lv) : Lv := (i, v) :: lv.filter (fun q => !(q.1 == i) && (!(q.1 == i + 1) && !(q.1 + 1 == i && q.2.category == 2)))
def jt (pc : Nat) (f : Int) : Nat := ((pc : Int) + f).toNat
def icc : ClassFile.Cond → Int32 → Int32 → Prop
  | .eq, x, y => x = y
  | .ne, x, y => ¬ x = y
  | .lt, x, y => x < y
  | .ge, x, y => y ≤ x
  | .gt, x, y => y < x
  | .le, x, y => x ≤ y
def swt (d lo hi : Int) (offs : Array Int) (x : Int) : Int := if x < lo ∨ hi < x then d else (offs[(x - lo).toNat]?).getD 0
abbrev Crel : Type := Nat → List Value → Hp → Option Value → Hp → Prop
/-- one instruction: K takes what comes behind it; Qr takes what is returned -/
def ins (z b L : Nat) (xs : Nat → Int32) (C : Crel) (oc : Nat) (rt : Option FieldType) (Qr : Option Value → Hp → Prop) (K : Nat → Lv → List Value → Hp → Prop) (pc : Nat) (lv : Lv) (st : List Value) (σ : Hp) : Instr → Prop
  | .iconst n => K (pc + 1) lv (.int (Int32.ofInt n) :: st) σ
  | .bipush n => K (pc + 2) lv (.int (Int8.ofInt n).toInt32 :: st) σ
  | .sipush n => K (pc + 3) lv (.int (Int16.ofInt n).toInt32 :: st) σ
  | .lconst n => K (pc + 1) lv (.long (Int64.ofNat n.val) :: st) σ
  | .aconst_null => K (pc + 1) lv (.null :: st) σ
  | .ldc i => match kres oc i with
    | some (v, _) => K (pc + 2) lv (.int v :: st) σ
    | none => False
  | .ldc2_w i => match jres oc i with
    | some (v, _) => K (pc + 3) lv (.long v :: st) σ
    | none => False
  | .iload_n i => match lv.lookup i.val with
    | some (.int x) => K (pc + 1) lv (.int x :: st) σ
    | _ => False
  | .iload i => match lv.lookup i with
    | some (.int x) => K (pc + 2) lv (.int x :: st) σ
    | _ => False
  | .lload_n i => match lv.lookup i.val with
    | some (.long x) => K (pc + 1) lv (.long x :: st) σ
    | _ => False
  | .lload i => match lv.lookup i with
    | some (.long x) => K (pc + 2) lv (.long x :: st) σ
    | _ => False
  | .aload_n i => match lv.lookup i.val with
    | some (.ref x) => K (pc + 1) lv (.ref x :: st) σ
    | some .null => K (pc + 1) lv (.null :: st) σ
    | _ => False
  | .aload i => match lv.lookup i with
    | some (.ref x) => K (pc + 2) lv (.ref x :: st) σ
    | some .null => K (pc + 2) lv (.null :: st) σ
    | _ => False
  | .istore_n i => match st with
    | .int x :: r => K (pc + 1) (lvs i.val (.int x) lv) r σ
    | _ => False
  | .istore i => match st with
    | .int x :: r => K (pc + 2) (lvs i (.int x) lv) r σ
    | _ => False
  | .lstore_n i => match st with
    | .long x :: r => K (pc + 1) (lvl i.val (.long x) lv) r σ
    | _ => False
  | .lstore i => match st with
    | .long x :: r => K (pc + 2) (lvl i (.long x) lv) r σ
    | _ => False
  | .astore_n i => match st with
    | .ref x :: r => K (pc + 1) (lvs i.val (.ref x) lv) r σ
    | .null :: r => K (pc + 1) (lvs i.val .null lv) r σ
    | _ => False
  | .astore i => match st with
    | .ref x :: r => K (pc + 2) (lvs i (.ref x) lv) r σ
    | .null :: r => K (pc + 2) (lvs i .null lv) r σ
    | _ => False
  | .iinc i n => match lv.lookup i with
    | some (.int x) => K (pc + 3) (lvs i (.int (x + Int32.ofInt n)) lv) st σ
    | _ => False
  | .iadd => match st with
    | .int y :: .int x :: r => K (pc + 1) lv (.int (x + y) :: r) σ
    | _ => False
  | .isub => match st with
    | .int y :: .int x :: r => K (pc + 1) lv (.int (x - y) :: r) σ
    | _ => False
  | .imul => match st with
    | .int y :: .int x :: r => K (pc + 1) lv (.int (x * y) :: r) σ
    | _ => False
  | .iand => match st with
    | .int y :: .int x :: r => K (pc + 1) lv (.int (x &&& y) :: r) σ
    | _ => False
  | .idiv => match st with
    | .int y :: .int x :: r => ¬ y = 0 ∧ K (pc + 1) lv (.int (x / y) :: r) σ
    | _ => False
  | .ineg => match st with
    | .int x :: r => K (pc + 1) lv (.int (-x) :: r) σ
    | _ => False
  | .ishr => match st with
    | .int y :: .int x :: r => K (pc + 1) lv (.int (x >>> (y &&& 31)) :: r) σ
    | _ => False
  | .ladd => match st with
    | .long y :: .long x :: r => K (pc + 1) lv (.long (x + y) :: r) σ
    | _ => False
  | .lsub => match st with
    | .long y :: .long x :: r => K (pc + 1) lv (.long (x - y) :: r) σ
    | _ => False
  | .lmul => match st with
    | .long y :: .long x :: r => K (pc + 1) lv (.long (x * y) :: r) σ
    | _ => False
  | .ldiv => match st with
    | .long y :: .long x :: r => ¬ y = 0 ∧ K (pc + 1) lv (.long (x / y) :: r) σ
    | _ => False
  | .lrem => match st with
    | .long y :: .long x :: r => ¬ y = 0 ∧ K (pc + 1) lv (.long (x - x / y * y) :: r) σ
    | _ => False
  | .land => match st with
    | .long y :: .long x :: r => K (pc + 1) lv (.long (x &&& y) :: r) σ
    | _ => False
  | .lor => match st with
    | .long y :: .long x :: r => K (pc + 1) lv (.long (x ||| y) :: r) σ
    | _ => False
  | .lushr => match st with
    | .int y :: .long x :: r => K (pc + 1) lv (.long (x.toUInt64 >>> (y.toInt64.toUInt64 &&& Int64.toUInt64 63)).toInt64 :: r) σ
    | _ => False
  | .lshl => match st with
    | .int y :: .long x :: r => K (pc + 1) lv (.long (x <<< (y.toInt64 &&& 63)) :: r) σ
    | _ => False
  | .lcmp => match st with
    | .long y :: .long x :: r => K (pc + 1) lv (.int (lg_cmp x y) :: r) σ
    | _ => False
  | .i2l => match st with
    | .int x :: r => K (pc + 1) lv (.long x.toInt64 :: r) σ
    | _ => False
  | .l2i => match st with
    | .long x :: r => K (pc + 1) lv (.int x.toInt32 :: r) σ
    | _ => False
  | .i2b => match st with
    | .int x :: r => K (pc + 1) lv (.int x.toInt8.toInt32 :: r) σ
    | _ => False
  | .dup => match st with
    | v :: r => v.category = 1 ∧ K (pc + 1) lv (v :: v :: r) σ
    | _ => False
  | .dup2 => match st with
    | v :: w :: r => v.category = 1 ∧ w.category = 1 ∧ K (pc + 1) lv (v :: w :: v :: w :: r) σ
    | _ => False
  | .pop => match st with
    | v :: r => v.category = 1 ∧ K (pc + 1) lv r σ
    | _ => False
  | .goto f => K (jt pc f) lv st σ
  | .ifCond c f => match st with
    | .int x :: r => (icc c x 0 → K (jt pc f) lv r σ) ∧ (¬ icc c x 0 → K (pc + 3) lv r σ)
    | _ => False
  | .if_icmp c f => match st with
    | .int y :: .int x :: r => (icc c x y → K (jt pc f) lv r σ) ∧ (¬ icc c x y → K (pc + 3) lv r σ)
    | _ => False
  | .ifnull f => match st with
    | .null :: r => K (jt pc f) lv r σ
    | .ref _ :: r => K (pc + 3) lv r σ
    | _ => False
  | .ifnonnull f => match st with
    | .null :: r => K (pc + 3) lv r σ
    | .ref _ :: r => K (jt pc f) lv r σ
    | _ => False
  | .if_acmp c f => match st with
    | v :: w :: r => ∃ rx ry : Option Nat, v = va_rf ry ∧ w = va_rf rx ∧ match c with
      | .eq => (rx = ry → K (jt pc f) lv r σ) ∧ (¬ rx = ry → K (pc + 3) lv r σ)
      | .ne => (¬ rx = ry → K (jt pc f) lv r σ) ∧ (rx = ry → K (pc + 3) lv r σ)
    | _ => False
  | .tableswitch d lo hi offs => match st with
    | .int x :: r => K (jt pc (swt d lo hi offs x.toInt)) lv r σ
    | _ => False
  | .lookupswitch d ps => match st with
    | .int x :: r => K (jt pc (Op.lookupswitch.offset ps.toList d x.toInt)) lv r σ
    | _ => False
  | .getfield i => match fres oc i, st with
    | some (ci, k, _), .ref a :: r => ∃ (fs : List Value) (v : Value), cel z b L xs σ a = some (oB ci fs) ∧ fs[k]? = some v ∧ K (pc + 3) lv (v :: r) σ
    | _, _ => False
  | .putfield i => match fres oc i, st with
    | some (ci, k, _), v :: .ref a :: r => ∃ fs : List Value, cel z b L xs σ a = some (oB ci fs) ∧ k < fs.length ∧ fitV ((fTy.getD ci []).getD k .int) v ∧ K (pc + 3) lv r (upc z σ a (oB ci (fs.set k v)))
    | _, _ => False
  | .iaload => match st with
    | .int i :: .ref a :: r => ∃ (n : Nat) (f : Nat → Int32), cel z b L xs σ a = some (aI n f) ∧ vp_in i n ∧ K (pc + 1) lv (.int (f i.toNatClampNeg) :: r) σ
    | _ => False
  | .laload => match st with
    | .int i :: .ref a :: r => ∃ (n : Nat) (f : Nat → Int64), cel z b L xs σ a = some (aJ n f) ∧ vp_in i n ∧ K (pc + 1) lv (.long (f i.toNatClampNeg) :: r) σ
    | _ => False
  | .baload => match st with
    | .int i :: .ref a :: r => ∃ (n : Nat) (f : Nat → Int32), (cel z b L xs σ a = some (aB n f) ∨ cel z b L xs σ a = some (aZ n f)) ∧ vp_in i n ∧ K (pc + 1) lv (.int (f i.toNatClampNeg) :: r) σ
    | _ => False
  | .aaload => match st with
    | .int i :: .ref a :: r => ∃ (t n : Nat) (f : Nat → Option Nat), cel z b L xs σ a = some (aR t n f) ∧ (t = 4 ∨ t = 5) ∧ vp_in i n ∧ K (pc + 1) lv (va_rf (f i.toNatClampNeg) :: r) σ
    | _ => False
  | .iastore => match st with
    | .int x :: .int i :: .ref a :: r => ∃ (n : Nat) (f : Nat → Int32), cel z b L xs σ a = some (aI n f) ∧ z ≤ a ∧ vp_in i n ∧ K (pc + 1) lv r (upc z σ a (aI n (upd f i.toNatClampNeg x)))
    | _ => False
  | .lastore => match st with
    | .long x :: .int i :: .ref a :: r => ∃ (n : Nat) (f : Nat → Int64), cel z b L xs σ a = some (aJ n f) ∧ vp_in i n ∧ K (pc + 1) lv r (upc z σ a (aJ n (vp_updL f i.toNatClampNeg x)))
    | _ => False
  | .bastore => match st with
    | .int x :: .int i :: .ref a :: r => ∃ (n : Nat) (f : Nat → Int32), vp_in i n ∧ ((cel z b L xs σ a = some (aB n f) ∧ K (pc + 1) lv r (upc z σ a (aB n (upd f i.toNatClampNeg (vp_nar .byte x))))) ∨ (cel z b L xs σ a = some (aZ n f) ∧ K (pc + 1) lv r (upc z σ a (aZ n (upd f i.toNatClampNeg (vp_nar .boolean x))))))
    | _ => False
  | .aastore => match st with
    | .ref v :: .int i :: .ref a :: r => ∃ (t n : Nat) (f : Nat → Option Nat) (fs : List Value), cel z b L xs σ a = some (aR t n f) ∧ vp_in i n ∧ ((t = 4 ∧ cel z b L xs σ v = some (oB 7 fs)) ∨ (t = 5 ∧ cel z b L xs σ v = some (oB 6 fs))) ∧ K (pc + 1) lv r (upc z σ a (aR t n (va_up f i.toNatClampNeg (some v))))
    | .null :: .int i :: .ref a :: r => ∃ (t n : Nat) (f : Nat → Option Nat), cel z b L xs σ a = some (aR t n f) ∧ (t = 4 ∨ t = 5) ∧ vp_in i n ∧ K (pc + 1) lv r (upc z σ a (aR t n (va_up f i.toNatClampNeg none)))
    | _ => False
  | .arraylength => match st with
    | .ref a :: r => ∃ (t n : Nat) (x : (Nat → Int32) ⊕ (Nat → Int64) ⊕ (Nat → UInt32) ⊕ (Nat → UInt64) ⊕ (Nat → Option Nat)), cel z b L xs σ a = some (.inl (t, n, x)) ∧ t < 6 ∧ K (pc + 1) lv (.int (Int32.ofNat n) :: r) σ
    | _ => False
  | .newarray t => match st with
    | .int n :: r => ¬ n < 0 ∧ n.toNatClampNeg ≤ 80000 ∧ match t with
      | .int => K (pc + 2) lv (.ref (z + σ.length) :: r) (σ ++ [aI n.toNatClampNeg (fun _ => 0)])
      | .long => K (pc + 2) lv (.ref (z + σ.length) :: r) (σ ++ [aJ n.toNatClampNeg (fun _ => 0)])
      | .byte => K (pc + 2) lv (.ref (z + σ.length) :: r) (σ ++ [aB n.toNatClampNeg (fun _ => 0)])
      | .boolean => K (pc + 2) lv (.ref (z + σ.length) :: r) (σ ++ [aZ n.toNatClampNeg (fun _ => 0)])
      | _ => False
    | _ => False
  | .anewarray i => match qres oc i, st with
    | some (t, _), .int n :: r => ¬ n < 0 ∧ n.toNatClampNeg ≤ 80000 ∧ K (pc + 3) lv (.ref (z + σ.length) :: r) (σ ++ [aR t n.toNatClampNeg (fun _ => none)])
    | _, _ => False
  | .new i => match cres oc i with
    | some (ci, _) => K (pc + 3) lv (.ref (z + σ.length) :: st) (σ ++ [oB ci (dfl.getD ci [])])
    | none => False
  | .ireturn => match st, rt with
    | [.int x], some ty => fitV ty (.int x) ∧ Qr (some (.int x)) σ
    | _, _ => False
  | .lreturn => match st, rt with
    | [.long x], some .long => Qr (some (.long x)) σ
    | _, _ => False
  | .areturn => match st, rt with
    | [.null], some (.object _) => Qr (some .null) σ
    | [.ref a], some (.object _) => Qr (some (.ref a)) σ
    | _, _ => False
  | .return_ => match st, rt with
    | [], none => Qr none σ
    | _, _ => False
  | .invokevirtual i => match mres oc i with
    | some (0, j, _) => match prog[j]? with
      | some md => ∃ (a : Nat) (fs : List Value) (v : Option Value) (σ1 : Hp), st[md.2.2.2.2.1]? = some (.ref a) ∧ cel z b L xs σ a = some (oB md.2.2.2.2.2.1 fs) ∧ wgt (st.drop (md.2.2.2.2.1 + 1)) ≤ 8 ∧ C j (.ref a :: (st.take md.2.2.2.2.1).reverse) σ v σ1 ∧ K (pc + 3) lv (v.toList ++ st.drop (md.2.2.2.2.1 + 1)) σ1
      | none => False
    | _ => False
  | .invokestatic i => match mres oc i with
    | some (7, _, _) => match st with
      | .int n :: .int dp :: .ref a1 :: .int sp :: .ref a0 :: r => wgt r ≤ 8 ∧ ¬ sp < 0 ∧ ¬ dp < 0 ∧ ¬ n < 0 ∧
          ((∃ (n0 n1 : Nat) (f g : Nat → Int32), cel z b L xs σ a0 = some (aB n0 f) ∧ cel z b L xs σ a1 = some (aB n1 g) ∧ sp.toNatClampNeg + n.toNatClampNeg ≤ n0 ∧ dp.toNatClampNeg + n.toNatClampNeg ≤ n1 ∧ (∀ i, i < n.toNatClampNeg → fits .byte (.int (f (sp.toNatClampNeg + i))) = true) ∧ K (pc + 3) lv r (upc z σ a1 (aB n1 (va_cpy f g sp.toNatClampNeg dp.toNatClampNeg n.toNatClampNeg)))) ∨
           (∃ (n0 n1 : Nat) (f g : Nat → Int64), cel z b L xs σ a0 = some (aJ n0 f) ∧ cel z b L xs σ a1 = some (aJ n1 g) ∧ sp.toNatClampNeg + n.toNatClampNeg ≤ n0 ∧ dp.toNatClampNeg + n.toNatClampNeg ≤ n1 ∧ K (pc + 3) lv r (upc z σ a1 (aJ n1 (va_cpy f g sp.toNatClampNeg dp.toNatClampNeg n.toNatClampNeg)))))
      | _ => False
    | some (8, _, _) => match st with
      | .int y :: .int x :: r => wgt r ≤ 8 ∧ K (pc + 3) lv (.int (if x < y then y else x) :: r) σ
      | _ => False
    | some (9, _, _) => match st with
      | .int y :: .int x :: r => wgt r ≤ 8 ∧ K (pc + 3) lv (.int (if y < x then y else x) :: r) σ
      | _ => False
    | some (k, j, _) => (k = 1 ∨ k = 4) ∧ match prog[j]? with
      | some md => ∃ (v : Option Value) (σ1 : Hp), md.2.2.2.2.1 ≤ st.length ∧ wgt (st.drop md.2.2.2.2.1) ≤ 8 ∧ C j (st.take md.2.2.2.2.1).reverse σ v σ1 ∧ K (pc + 3) lv (v.toList ++ st.drop md.2.2.2.2.1) σ1
      | none => False
    | none => False
  | .invokespecial i => match mres oc i with
    | some (6, _, _) => match st with
      | .ref _ :: r => wgt r ≤ 8 ∧ K (pc + 3) lv r σ
      | _ => False
    | some (k, j, _) => (k = 2 ∨ k = 5) ∧ match prog[j]? with
      | some md => ∃ (a : Nat) (v : Option Value) (σ1 : Hp), st[md.2.2.2.2.1]? = some (.ref a) ∧ wgt (st.drop (md.2.2.2.2.1 + 1)) ≤ 8 ∧ C j (.ref a :: (st.take md.2.2.2.2.1).reverse) σ v σ1 ∧ K (pc + 3) lv (v.toList ++ st.drop (md.2.2.2.2.1 + 1)) σ1
      | none => False
    | none => False
  | _ => False
/-- instructions one by one, n at the most -/
def wp (z b L : Nat) (xs : Nat → Int32) (C : Crel) (t : List (Nat × Instr × Nat)) (oc : Nat) (rt : Option FieldType) (Qr : Option Value → Hp → Prop) : Nat → Nat → Lv → List Value → Hp → Prop
  | 0, _, _, _, _ => False
  | n + 1, pc, lv, st, σ => match t.lookup pc with
    | some q => ins z b L xs C oc rt Qr (wp z b L xs C t oc rt Qr n) pc lv st σ q.1
    | none => False
/-- a call that goes d deep at the most -/
def Cal (z b L : Nat) (xs : Nat → Int32) : Nat → Crel
  | 0, _, _, _, _, _ => False
  | d + 1, j, av, σ, v, σ1 => match prog[j]? with
    | some md => (lg_sl av).length ≤ md.2.2.1 ∧ ∃ n, wp z b L xs (Cal z b L xs d) md.2.2.2.2.2.2.2 md.2.2.2.2.2.1 md.2.2.2.1 (fun v' σ' => v' = v ∧ σ' = σ1) n 0 (lv_args 0 av) [] σ
    | none => False
end
section
/-! ===== the engine's heap as a world of the kit ===== -/
def trE (ar : Nat → ClassId) : va_E → va_E
  | .inl x => .inl (ar x.1, x.2)
  | .inr o => .inr o
def wz (ar : Nat → ClassId) : Nat → Hp → va_W
  | _, [] => []
  | z, e :: l => (z, trE ar e) :: wz ar (z + 1) l
theorem wz_get (ar : Nat → ClassId) : ∀ (z : Nat) (σ : Hp) (k : Nat), (wz ar z σ)[k]? = (σ[k]?).map (fun e => (z + k, trE ar e))
  | _, [], k => by simp [wz]
  | z, e :: l, 0 => by simp [wz]
  | z, e :: l, k + 1 => by
    rw [wz, List.getElem?_cons_succ, List.getElem?_cons_succ, wz_get ar (z + 1) l k]
    congr 1
    funext x
    rw [show z + 1 + k = z + (k + 1) by omega]
theorem wz_set (ar : Nat → ClassId) (e : va_E) : ∀ (z : Nat) (σ : Hp) (k : Nat), (wz ar z σ).set k (z + k, trE ar e) = wz ar z (σ.set k e)
  | _, [], k => by simp [wz]
  | z, x :: l, 0 => by simp [wz]
  | z, x :: l, k + 1 => by
    rw [wz, List.set_cons_succ, List.set_cons_succ, wz, ← wz_set ar e (z + 1) l k, show z + 1 + k = z + (k + 1) by omega]
theorem wz_app (ar : Nat → ClassId) (e : va_E) : ∀ (z : Nat) (σ : Hp), wz ar z (σ ++ [e]) = wz ar z σ ++ [(z + σ.length, trE ar e)]
  | z, [] => by simp [wz]
  | z, x :: l => by
    rw [List.cons_append, wz, wz, wz_app ar e (z + 1) l, List.cons_append, List.length_cons, show z + 1 + l.length = z + (l.length + 1) by omega]
theorem wz_D (ar : Nat → ClassId) (z : Nat) (σ : Hp) : va_D (fun q : Nat => z ≤ q) (wz ar z σ) := by
  refine ⟨fun i j p q hi hj hpq => ?_, fun k q hk => ?_⟩
  · rw [wz_get] at hi hj
    obtain ⟨x, -, rfl⟩ := Option.map_eq_some_iff.mp hi
    obtain ⟨y, -, rfl⟩ := Option.map_eq_some_iff.mp hj
    have h : z + i = z + j := hpq
    omega
  · rw [wz_get] at hk
    obtain ⟨x, -, rfl⟩ := Option.map_eq_some_iff.mp hk
    show z ≤ z + k
    omega
theorem cel_own {z b L : Nat} {xs : Nat → Int32} {σ : Hp} {a : Nat} {e : va_E} (h : cel z b L xs σ a = some e) (ha : z ≤ a) : σ[a - z]? = some e := by
  unfold cel at h
  rw [if_pos ha] at h
  exact h
theorem cel_ge {z b L : Nat} {xs : Nat → Int32} {σ : Hp} {a : Nat} {e : va_E} (h : cel z b L xs σ a = some e) (he : ∀ n f, aI n f ≠ e) : z ≤ a := by
  unfold cel at h
  by_cases ha : z ≤ a
  · exact ha
  · rw [if_neg ha] at h
    split at h
    · exact absurd (Option.some.inj h) (he _ _)
    · cases h
theorem cel_lo {z b L : Nat} {xs : Nat → Int32} {σ : Hp} {a : Nat} {e : va_E} (h : cel z b L xs σ a = some e) (ha : ¬ z ≤ a) : a = b ∧ e = aI L xs := by
  unfold cel at h
  rw [if_neg ha] at h
  split at h
  · rename_i q
    exact ⟨q, (Option.some.inj h).symm⟩
  · cases h
theorem wz_cel {ar : Nat → ClassId} {z : Nat} {σ : Hp} {a : Nat} {e : va_E} (h : σ[a - z]? = some e) (ha : z ≤ a) : (wz ar z σ)[a - z]? = some (a, trE ar e) := by
  rw [wz_get, h]
  show some (z + (a - z), _) = _
  rw [show z + (a - z) = a by omega]
theorem wz_upc {ar : Nat → ClassId} {z : Nat} {σ : Hp} {a : Nat} (e : va_E) (ha : z ≤ a) : (wz ar z σ).set (a - z) (a, trE ar e) = wz ar z (upc z σ a e) := by
  have h := wz_set ar e z σ (a - z)
  rw [show z + (a - z) = a by omega] at h
  exact h
/-- nothing goes; no cell gets less -/
def gw (σ σ1 : Hp) : Prop := σ.length ≤ σ1.length ∧ szH σ ≤ szH σ1
theorem gw.rf (σ : Hp) : gw σ σ := ⟨Nat.le_refl _, Nat.le_refl _⟩
theorem gw.tr {σ σ1 σ2 : Hp} (h : gw σ σ1) (h1 : gw σ1 σ2) : gw σ σ2 := ⟨Nat.le_trans h.1 h1.1, Nat.le_trans h.2 h1.2⟩
theorem szH_app (σ : Hp) (e : va_E) : szH (σ ++ [e]) = szH σ + esz e := by simp [szH]
theorem gw_app (σ : Hp) (e : va_E) : gw σ (σ ++ [e]) := ⟨by simp, by rw [szH_app]; omega⟩
theorem szH_set {e0 e : va_E} (he : esz e = esz e0) : ∀ (σ : Hp) (k : Nat), σ[k]? = some e0 → szH (σ.set k e) = szH σ
  | [], k, h => by simp at h
  | x :: l, 0, h => by
    simp at h
    subst h
    simp [szH, he]
  | x :: l, k + 1, h => by
    have h1 := szH_set he l k (by simpa using h)
    simp only [szH, List.set_cons_succ, List.map_cons, List.sum_cons] at h1 ⊢
    omega
theorem upc_len (z : Nat) (σ : Hp) (a : Nat) (e : va_E) : (upc z σ a e).length = σ.length := by simp [upc]
theorem szH_upc {z : Nat} {σ : Hp} {a : Nat} {e0 e : va_E} (h : σ[a - z]? = some e0) (he : esz e = esz e0) : szH (upc z σ a e) = szH σ := szH_set he σ _ h
theorem gw_upc {z : Nat} {σ : Hp} {a : Nat} {e0 e : va_E} (h : σ[a - z]? = some e0) (he : esz e = esz e0) : gw σ (upc z σ a e) := ⟨by rw [upc_len]; exact Nat.le_refl _, by rw [szH_upc h he]; exact Nat.le_refl _⟩
/-- the array classes -/
def tyL (ar : Nat → ClassId) : List (ClassId × FieldType) := [(ar 0, .int), (ar 1, .long), (ar 2, .byte), (ar 3, .boolean), (ar 4, .object RX7), (ar 5, .object RX6)]
/-- what the tables say, of a state -/
def KS (D : va_G) (ar : Nat → ClassId) (scr : Cell) (U : State) : Prop := va_K D vwCl (tyL ar) U ∧ (∀ q ∈ nest, va_Nw q.2 U) ∧ va_AO RX7 U ∧ va_AO RX6 U ∧ U.isArrayOf scr .int
/-- what a heap holds -/
def WH (D : va_G) (ar : Nat → ClassId) (z b : Nat) (scr : Cell) (σ : Hp) (H : Heap) : Prop := va_P D vwCl (wz ar z σ) H ∧ H.size = z + σ.length ∧ H[b]? = some scr
theorem nest_form : ∀ q ∈ nest, ∃ (a : String) (i : Nat) (x : MethodName) (h : String), q.2 = .methodLinkNest a i x h := by
  intro q hq
  simp only [nest, List.mem_cons, List.not_mem_nil, or_false] at hq
  rcases hq with rfl | rfl | rfl | rfl | rfl | rfl <;> exact ⟨_, _, _, _, rfl⟩
theorem KS.warm {D : va_G} {ar : Nat → ClassId} {scr : Cell} {s U : State} (hW : s.WarmedH U.vm) (h : KS D ar scr s) : KS D ar scr U := by
  refine ⟨va_K.moved hW.alike h.1, fun q hq => ?_, h.2.2.1.moved hW.alike, h.2.2.2.1.moved hW.alike, State.isArrayOf_alike hW.alike h.2.2.2.2⟩
  obtain ⟨a, i, x, hh, e⟩ := nest_form q hq
  have h1 := h.2.1 q hq
  rw [e] at h1 ⊢
  exact va_Nw.warmM hW h1
theorem KS.call {D : va_G} {ar : Nat → ClassId} {scr : Cell} {U : State} (g : JFrame) (mk : MethodId) (a : Array Value) (h : KS D ar scr U) : KS D ar scr (U.calling g mk a) := by
  refine ⟨va_K.moved (u := U) (U := U.calling g mk a) (Vm.Alike.refl U.vm) h.1, fun q hq => ?_, h.2.2.1.moved (u := U) (U := U.calling g mk a) (Vm.Alike.refl U.vm), h.2.2.2.1.moved (u := U) (U := U.calling g mk a) (Vm.Alike.refl U.vm), State.isArrayOf_alike (Vm.Alike.refl U.vm) h.2.2.2.2⟩
  obtain ⟨b, i, x, hh, e⟩ := nest_form q hq
  have h1 := h.2.1 q hq
  rw [e] at h1 ⊢
  exact va_Nw.same rfl (u := U) rfl h1
def rmD (d mc ms : Nat) : Room := { frames := d, cells := mc, slots := ms, locals := 38 * d }
def wsM (md : MD) : List Cond := Cond.code md.1 md.2.1 md.2.2.1 md.2.2.2.1 :: gt
def PX (D : va_G) (ar : Nat → ClassId) (z b : Nat) (scr : Cell) (av : List Value) (σ : Hp) : Array Value → State → Prop := va_Pc av (fun U => WH D ar z b scr σ U.heap ∧ KS D ar scr U)
def QX (D : va_G) (ar : Nat → ClassId) (z b : Nat) (scr : Cell) (v : Option Value) (σ1 : Hp) : Array Value → State → Outcome → State → Prop := fun _ st oc t => (oc = .returned v ∧ WH D ar z b scr σ1 t.heap) ∧ va_F (fun q : Nat => z ≤ q) st t
/-- a method's contract at one start -/
def Ct (l : Launch) (D : va_G) (ar : Nat → ClassId) (z b : Nat) (scr : Cell) (d : Nat) (md : MD) (av : List Value) (σ : Hp) (v : Option Value) (σ1 : Hp) : Prop :=
  Met l md.1 (wsM md) (rmD d (σ1.length - σ.length) (szH σ1 - szH σ)) (PX D ar z b scr av σ) (QX D ar z b scr v σ1) (σ1.length - σ.length) (szH σ1 - szH σ) (fun q : Nat => z ≤ q)

theorem gt_good : ∀ w ∈ gt, (w.onTables && w.keeps) = true ∨ ∃ ty, w = .arrayClass ty := fun w h => good_of_word (List.mem_filter.mp h).2
theorem md_code {md : MD} (h : okMD md = true) : Cond.code md.1 md.2.1 md.2.2.1 md.2.2.2.1 ∈ gt ∧ Cond.initialized md.1.cls ∈ gt ∧ (md.1.cls ≠ "java/lang/invoke/MethodHandle" ∧ md.1.cls ≠ "java/lang/invoke/VarHandle" ∧ (parseMethodDescriptor md.1.desc).map (fun d => d.parameters.length) = some md.2.2.2.2.1) ∧ md.2.2.1 ≤ 19 ∧ plainName md.1.cls = true ∧ cN[md.2.2.2.2.2.1]? = some md.1.cls ∧ okT md.2.1 md.2.2.1 md.2.2.2.2.2.1 (decide (md.1.name = "<init>")) md.2.2.2.2.2.2.2 = true := by
  simp only [okMD, okM0, Bool.and_eq_true, decide_eq_true_eq] at h
  obtain ⟨⟨⟨⟨⟨⟨⟨⟨h1, h2⟩, h3⟩, h4⟩, h5⟩, h6⟩, h7⟩, h8⟩, h9⟩ := h
  exact ⟨wg_in h1, wg_in h2, ⟨h3, h4, h5⟩, h6, h7, h8, h9⟩
theorem wsM_good {Ts : List Cond} {md : MD} (hg : ∀ w ∈ gt, w ∈ Ts) (h : okMD md = true) : GoodIn Ts (wsM md) := by
  intro w hw
  rcases List.mem_cons.mp hw with rfl | hw
  · exact ⟨hg _ (md_code h).1, gt_good _ (md_code h).1⟩
  · exact ⟨hg _ hw, gt_good _ hw⟩
theorem fres_sp {oc i ci k ix : Nat} {own : String} (hc : cN[oc]? = some own) (h : fres oc i = some (ci, k, ix)) : ∃ r : vw_C, vwCl[ci]? = some r ∧ k < r.2.2 ∧ Cond.fieldLink own i (r.2.1 k).1 (r.2.1 k).2.1 (r.2.1 k).2.2.1 ∈ gt := by
  have h1 := fres_ok h
  simp only [okF, hc] at h1
  split at h1
  · rename_i o r e1 e2
    cases e1
    simp only [Bool.and_eq_true, decide_eq_true_eq] at h1
    exact ⟨r, e2, h1.1, wg_in h1.2⟩
  · cases h1
theorem fitV_ok {ty : FieldType} {v : Value} (h : fitV ty v) : narrow ty v = v ∧ fits ty v = true := by
  cases ty <;> cases v <;> first | exact False.elim h | exact ⟨rfl, rfl⟩ | skip
  rcases h with rfl | rfl <;> exact ⟨by decide +kernel, by decide +kernel⟩
end
section
/-! ===== what the engine makes stays ===== -/
theorem ins_gw {z b L : Nat} {xs : Nat → Int32} {C : Crel} {oc : Nat} {rt : Option FieldType} {Qr : Option Value → Hp → Prop} {K : Nat → Lv → List Value → Hp → Prop} {pc : Nat} {lv : Lv} {st : List Value} {σ : Hp} {i : Instr} {G : Hp → Prop}
    (hC : ∀ j av σ v σ1, C j av σ v σ1 → gw σ σ1) (hK : ∀ pc lv st σ', K pc lv st σ' → G σ') (hG : ∀ σ σ', gw σ σ' → G σ' → G σ) (hQ : ∀ v σ', Qr v σ' → G σ')
    (h : ins z b L xs C oc rt Qr K pc lv st σ i) : G σ := by
  cases i
  case getfield i =>
    simp only [ins] at h
    split at h
    · obtain ⟨fs, v, -, -, h⟩ := h
      exact hK _ _ _ _ h
    · exact h.elim
  case putfield i =>
    simp only [ins] at h
    split at h
    · obtain ⟨fs, hc, hk, -, h⟩ := h
      exact hG _ _ (by exact gw_upc (cel_own hc (cel_ge hc (fun _ _ q => by cases q))) rfl) (hK _ _ _ _ h)
    · exact h.elim
  case iaload =>
    simp only [ins] at h
    split at h
    · obtain ⟨n, f, -, -, h⟩ := h
      exact hK _ _ _ _ h
    · exact h.elim
  case laload =>
    simp only [ins] at h
    split at h
    · obtain ⟨n, f, -, -, h⟩ := h
      exact hK _ _ _ _ h
    · exact h.elim
  case baload =>
    simp only [ins] at h
    split at h
    · obtain ⟨n, f, -, -, h⟩ := h
      exact hK _ _ _ _ h
    · exact h.elim
  case aaload =>
    simp only [ins] at h
    split at h
    · obtain ⟨t, n, f, -, -, -, h⟩ := h
      exact hK _ _ _ _ h
    · exact h.elim
  case iastore =>
    simp only [ins] at h
    split at h
    · obtain ⟨n, f, hc, ha, -, h⟩ := h
      exact hG _ _ (by exact gw_upc (cel_own hc ha) rfl) (hK _ _ _ _ h)
    · exact h.elim
  case lastore =>
    simp only [ins] at h
    split at h
    · obtain ⟨n, f, hc, -, h⟩ := h
      exact hG _ _ (by exact gw_upc (cel_own hc (cel_ge hc (fun _ _ q => by cases q))) rfl) (hK _ _ _ _ h)
    · exact h.elim
  case bastore =>
    simp only [ins] at h
    split at h
    · obtain ⟨n, f, -, ⟨hc, h⟩ | ⟨hc, h⟩⟩ := h
      · exact hG _ _ (by exact gw_upc (cel_own hc (cel_ge hc (fun _ _ q => by cases q))) rfl) (hK _ _ _ _ h)
      · exact hG _ _ (by exact gw_upc (cel_own hc (cel_ge hc (fun _ _ q => by cases q))) rfl) (hK _ _ _ _ h)
    · exact h.elim
  case aastore =>
    simp only [ins] at h
    split at h
    · obtain ⟨t, n, f, fs, hc, -, -, h⟩ := h
      exact hG _ _ (by exact gw_upc (cel_own hc (cel_ge hc (fun _ _ q => by cases q))) rfl) (hK _ _ _ _ h)
    · obtain ⟨t, n, f, hc, -, -, h⟩ := h
      exact hG _ _ (by exact gw_upc (cel_own hc (cel_ge hc (fun _ _ q => by cases q))) rfl) (hK _ _ _ _ h)
    · exact h.elim
  case arraylength =>
    simp only [ins] at h
    split at h
    · obtain ⟨t, n, x, -, -, h⟩ := h
      exact hK _ _ _ _ h
    · exact h.elim
  case newarray t =>
    simp only [ins] at h
    split at h
    · obtain ⟨-, -, h⟩ := h
      cases t <;> first | exact h.elim | exact hG _ _ (gw_app _ _) (hK _ _ _ _ h)
    · exact h.elim
  case anewarray i =>
    simp only [ins] at h
    split at h
    · obtain ⟨-, -, h⟩ := h
      exact hG _ _ (gw_app _ _) (hK _ _ _ _ h)
    · exact h.elim
  case new i =>
    simp only [ins] at h
    split at h
    · exact hG _ _ (gw_app _ _) (hK _ _ _ _ h)
    · exact h.elim
  case if_acmp c f =>
    simp only [ins] at h
    split at h
    · obtain ⟨rx, ry, -, -, h⟩ := h
      split at h
      · exact (Classical.em (rx = ry)).elim (fun q => hK _ _ _ _ (h.1 q)) (fun q => hK _ _ _ _ (h.2 q))
      · exact (Classical.em (rx = ry)).elim (fun q => hK _ _ _ _ (h.2 q)) (fun q => hK _ _ _ _ (h.1 q))
    · exact h.elim
  case ifCond c f =>
    simp only [ins] at h
    split at h
    · exact (Classical.em (icc c _ 0)).elim (fun q => hK _ _ _ _ (h.1 q)) (fun q => hK _ _ _ _ (h.2 q))
    · exact h.elim
  case if_icmp c f =>
    simp only [ins] at h
    split at h
    · exact (Classical.em (icc c _ _)).elim (fun q => hK _ _ _ _ (h.1 q)) (fun q => hK _ _ _ _ (h.2 q))
    · exact h.elim
  case invokevirtual i =>
    simp only [ins] at h
    split at h
    · split at h
      · obtain ⟨a, fs, v, σ1, -, -, -, hc, h⟩ := h
        exact hG _ _ (hC _ _ _ _ _ hc) (hK _ _ _ _ h)
      · exact h.elim
    · exact h.elim
  case invokestatic i =>
    simp only [ins] at h
    split at h
    · split at h
      · obtain ⟨-, -, -, -, ⟨n0, n1, f, g, h0, h1, -, -, -, h⟩ | ⟨n0, n1, f, g, h0, h1, -, -, h⟩⟩ := h
        · exact hG _ _ (by exact gw_upc (cel_own h1 (cel_ge h1 (fun _ _ q => by cases q))) rfl) (hK _ _ _ _ h)
        · exact hG _ _ (by exact gw_upc (cel_own h1 (cel_ge h1 (fun _ _ q => by cases q))) rfl) (hK _ _ _ _ h)
      · exact h.elim
    · split at h
      · exact hK _ _ _ _ h.2
      · exact h.elim
    · split at h
      · exact hK _ _ _ _ h.2
      · exact h.elim
    · obtain ⟨-, h⟩ := h
      split at h
      · obtain ⟨v, σ1, -, -, hc, h⟩ := h
        exact hG _ _ (hC _ _ _ _ _ hc) (hK _ _ _ _ h)
      · exact h.elim
    · exact h.elim
  case invokespecial i =>
    simp only [ins] at h
    split at h
    · split at h
      · exact hK _ _ _ _ h.2
      · exact h.elim
    · obtain ⟨-, h⟩ := h
      split at h
      · obtain ⟨a, v, σ1, -, -, hc, h⟩ := h
        exact hG _ _ (hC _ _ _ _ _ hc) (hK _ _ _ _ h)
      · exact h.elim
    · exact h.elim
  all_goals first
    | exact False.elim h
    | exact hK _ _ _ _ h
    | (simp only [ins] at h
       split at h <;> first
        | exact h.elim
        | exact hK _ _ _ _ h
        | exact hK _ _ _ _ h.2
        | exact hK _ _ _ _ h.2.2
        | exact hQ _ _ h
        | exact hQ _ _ h.2)
theorem wp_gw {z b L : Nat} {xs : Nat → Int32} {C : Crel} {t : List (Nat × Instr × Nat)} {oc : Nat} {rt : Option FieldType} {Qr : Option Value → Hp → Prop} (hC : ∀ j av σ v σ1, C j av σ v σ1 → gw σ σ1) :
    ∀ (n pc : Nat) (lv : Lv) (st : List Value) (σ : Hp), wp z b L xs C t oc rt Qr n pc lv st σ → ∃ v σ1, Qr v σ1 ∧ gw σ σ1
  | 0, _, _, _, _, h => h.elim
  | n + 1, pc, lv, st, σ, h => by
    simp only [wp] at h
    split at h
    · exact ins_gw (G := fun σ => ∃ v σ1, Qr v σ1 ∧ gw σ σ1) hC (fun pc lv st σ' h => wp_gw hC n pc lv st σ' h) (fun σ σ' g ⟨v, σ1, h1, h2⟩ => ⟨v, σ1, h1, g.tr h2⟩) (fun v σ' h => ⟨v, σ', h, gw.rf _⟩) h
    · exact h.elim
theorem Cal_gw {z b L : Nat} {xs : Nat → Int32} : ∀ (d j : Nat) (av : List Value) (σ : Hp) (v : Option Value) (σ1 : Hp), Cal z b L xs d j av σ v σ1 → gw σ σ1
  | 0, _, _, _, _, _, h => h.elim
  | d + 1, j, av, σ, v, σ1, h => by
    simp only [Cal] at h
    split at h
    · obtain ⟨-, n, h⟩ := h
      obtain ⟨v', σ', ⟨rfl, rfl⟩, g⟩ := wp_gw (Cal_gw d) n _ _ _ _ h
      exact g
    · exact h.elim
end
section
/-! ===== the engine is sound: what it finds, the machine does ===== -/
section SND
variable {p : Program} {l : Launch} {e : Env} {R : Room} {s : State} {m : MethodId} {args : Array Value} {below : List Frame} {meth : Method} {c : Code} {Q : State → Prop}
variable {D : va_G} {ar : Nat → ClassId} {z b L : Nat} {xs : Nat → Int32} {scr : Cell}
/-- what is fixed while a method runs -/
def Cx (p : Program) (s : State) (m : MethodId) (args : Array Value) (meth : Method) (c : Code) (D : va_G) (ar : Nat → ClassId) (z b L : Nat) (xs : Nat → Int32) (scr : Cell) (cc : ByteArray) (nL oc : Nat) (Ts : List Cond) (ini : Bool) (σ0 : Hp) : Prop :=
  p.tables.exec = Jvm.exec ∧ c.code = cc ∧ c.maxLocals = nL ∧ (∃ own, cN[oc]? = some own ∧ s.vm.findClass own = some m.cls) ∧ (∀ w ∈ Ts, w.before args s = true) ∧ (∀ w ∈ gt, w ∈ Ts) ∧ KS D ar scr s ∧ (ini = true → meth.name = "<init>") ∧ (scr.vm ≠ .unknown ∧ scr.slots.size = L ∧ ∀ j : Nat, j < L → scr.slots[j]? = some (.int (xs j))) ∧ b < z ∧ s.heap.size = z + σ0.length ∧ s.heap[b]? = some scr
def retI (rt : Option FieldType) (v : Option Value) (st : List Value) : Instr → Prop
  | .ireturn => ∃ (x : Int32) (ty : FieldType), st = [.int x] ∧ rt = some ty ∧ fitV ty (.int x) ∧ v = some (.int x)
  | .lreturn => ∃ x : Int64, st = [.long x] ∧ rt = some .long ∧ v = some (.long x)
  | .areturn => ∃ (w : Value) (n : String), st = [w] ∧ rt = some (.object n) ∧ (w = .null ∨ ∃ a, w = .ref a) ∧ v = some w
  | .return_ => st = [] ∧ rt = none ∧ v = none
  | _ => False
theorem W_size {H : Heap} {locs : List Loc} {cells slots : Nat} {g : JFrame} (h : H.size ≤ s.heap.size + cells → W p l e R s m args below meth c H locs cells slots Q g) : W p l e R s m args below meth c H locs cells slots Q g :=
  fun T hT X => h (by rw [← hT]; exact X.heapSize) T hT X
theorem vS_self {A : Nat → Prop} {H0 H : Heap} {locs : List Loc} (h : va_S A H0 H locs) : va_S A H H locs := ⟨Nat.le_refl _, fun _ _ _ => rfl, h.2.2⟩
theorem vS_tr {A : Nat → Prop} {H0 H H1 : Heap} {locs locs1 : List Loc} (h : va_S A H0 H locs) (h1 : va_S A H H1 locs1) : va_S A H0 H1 locs1 :=
  ⟨Nat.le_trans h.1 h1.1, fun q a1 a2 => (h1.2.1 q (Nat.lt_of_lt_of_le a1 h.1) a2).trans (h.2.1 q a1 a2), h1.2.2⟩
/-- behind a store -/
theorem WH_store {σ σ' σ0 : Hp} {H H1 : Heap} {locs1 : List Loc} {cells : Nat} (hW : WH D ar z b scr σ H) (hS1 : va_S (fun q : Nat => z ≤ q) H H1 locs1) (hP1 : va_P D vwCl (wz ar z σ') H1) (hl : σ'.length = σ.length) (hsz : H1.size ≤ s.heap.size + cells) (e0 : s.heap.size = z + σ0.length) (e1 : σ0.length + cells = σ.length) (hbz : b < z) : WH D ar z b scr σ' H1 := by
  obtain ⟨hP, hs, hb⟩ := hW
  have h1 := hS1.1
  refine ⟨hP1, by omega, ?_⟩
  have h2 : H1[b]? = H[b]? := hS1.2.1 b (by omega) (fun q => by
    have q' : z ≤ b := q
    omega)
  rw [h2]
  exact hb
/-- behind a cell that was made -/
theorem WH_make {σ σ0 : Hp} {x : va_E} {H H1 : Heap} {locs1 : List Loc} {cells q : Nat} (hW : WH D ar z b scr σ H) (hS1 : va_S (fun q : Nat => z ≤ q) H H1 locs1) (hP1 : va_P D vwCl (wz ar z σ ++ [(q, trE ar x)]) H1) (hD1 : va_D (fun q : Nat => z ≤ q) (wz ar z σ ++ [(q, trE ar x)])) (hsz : H1.size ≤ s.heap.size + (cells + 1)) (e0 : s.heap.size = z + σ0.length) (e1 : σ0.length + cells = σ.length) (hbz : b < z) : q = z + σ.length ∧ WH D ar z b scr (σ ++ [x]) H1 := by
  obtain ⟨hP, hs, hb⟩ := hW
  have hlen : (wz ar z σ).length = σ.length := by
    have h1 : ∀ k : Nat, (wz ar z σ)[k]? = none ↔ σ[k]? = none := fun k => by rw [wz_get]; simp
    have h2 := fun k => (List.getElem?_eq_none_iff (l := wz ar z σ) (i := k)).symm.trans ((h1 k).trans List.getElem?_eq_none_iff)
    have a1 := (h2 σ.length).mpr (Nat.le_refl _)
    have a2 := (h2 (wz ar z σ).length).mp (Nat.le_refl _)
    omega
  have hq : (wz ar z σ ++ [(q, trE ar x)])[(wz ar z σ).length]? = some (q, trE ar x) := by simp
  have hlt : q < H1.size := (hP1 _ _ hq).lt
  have hge : z ≤ q := hD1.2 _ _ hq
  have hne : ¬ q < z + σ.length := by
    intro hc
    have hk : q - z < σ.length := by omega
    have h3 : (wz ar z σ ++ [(q, trE ar x)])[q - z]? = some (q, trE ar σ[q - z]) := by
      rw [List.getElem?_append_left (by omega), wz_get, List.getElem?_eq_getElem hk]
      show some (z + (q - z), _) = _
      rw [show z + (q - z) = q by omega]
    have := hD1.1 _ _ _ _ h3 hq rfl
    omega
  have hqe : q = z + σ.length := by omega
  refine ⟨hqe, ?_, ?_, ?_⟩
  · rw [wz_app, ← hqe]
    exact hP1
  · rw [List.length_append, List.length_singleton]
    omega
  · have h2 : H1[b]? = H[b]? := hS1.2.1 b (by omega) (fun q => by
      have q' : z ≤ b := q
      omega)
    rw [h2]
    exact hb
/-- behind a call -/
theorem X_call {σ1 : Hp} {H : Heap} {locs : List Loc} {cells slots mc ms pc : Nat} {ls : Array Slot} {rest st0 : List Value} {v : Option Value} {a : Array Value} (hr : va_Run p l e R s m args below meth c H locs cells slots mc ms (F0 m pc ls st0) rest (QX D ar z b scr v σ1 a) (fun q : Nat => z ≤ q)) (hS : va_S (fun q : Nat => z ≤ q) s.heap H locs)
    (kk : ∀ (H1 : Heap) (locs1 : List Loc), WH D ar z b scr σ1 H1 → va_S (fun q : Nat => z ≤ q) s.heap H1 locs1 → W p l e R s m args below meth c H1 locs1 (cells + mc) (slots + ms) Q (F0 m (pc + 3) ls (v.toList ++ rest))) : W p l e R s m args below meth c H locs cells slots Q (F0 m pc ls st0) := by
  intro T hT X
  obtain ⟨v', st₀, t, T', L', h0, X', hL, e1, e2, ⟨⟨hv, hw⟩, hz, hk⟩, st⟩ := hr T hT X
  cases hv
  rw [h0] at hz hk
  obtain ⟨t2, a1, b1⟩ := kk T'.heap (locs ++ L') (by rw [e1]; exact hw)
    ⟨Nat.le_trans hS.1 (by rw [e1]; exact hz), fun q h1 h2 => by rw [e1, hk q (Nat.lt_of_lt_of_le h1 hS.1) h2]; exact hS.2.1 q h1 h2, fun q hq => by
      rcases List.mem_append.mp hq with h | h
      · exact hS.2.2 q h
      · exact hL q h⟩ T' rfl X'
  exact ⟨t2, st t2 a1, b1⟩
theorem PX_blind {av : List Value} {σ : Hp} : FrameBlind (PX D ar z b scr av σ) := fun a U g mk h => ⟨h.1, h.2.1, h.2.2.call g mk a⟩
theorem PX_S {H : Heap} {σ : Hp} (hK : KS D ar scr s) (hW : WH D ar z b scr σ H) (As : List Value) : PreS s H (PX D ar z b scr As σ) As := ⟨PX_blind, fun U hU hw => ⟨rfl, by rw [hU]; exact hW, hK.warm hw⟩⟩
end SND
theorem ar_eq {s : State} {c1 c2 : ClassId} {ty : FieldType} (h1 : va_RA s c1 ty) (h2 : va_RA s c2 ty) : c1 = c2 := by
  cases ty with
  | object C =>
    obtain ⟨_, _, _, _, _, h4⟩ := h1
    obtain ⟨_, _, _, _, _, h5⟩ := h2
    exact Option.some.inj (h4.symm.trans h5)
  | _ => exact Option.some.inj (Eq.trans (Eq.symm h1) h2)
set_option maxRecDepth 100000 in
theorem wpl_all : Cond.instanceMethod objectInit ∈ gt ∧ Cond.code objectInit ⟨#[0xb1]⟩ 1 none ∈ gt ∧ Cond.native arraycopyName ∈ gt ∧ Cond.static arraycopyName ∈ gt ∧ Cond.initialized "java/lang/System" ∈ gt ∧ Cond.arrayClass .int ∈ gt ∧ Cond.arrayClass .long ∈ gt ∧ Cond.arrayClass .byte ∈ gt ∧ Cond.arrayClass .boolean ∈ gt := by
  have h := wpl_ok
  simp only [Bool.and_eq_true] at h
  obtain ⟨⟨⟨⟨⟨⟨⟨⟨h1, h2⟩, h3⟩, h4⟩, h5⟩, h6⟩, h7⟩, h8⟩, h9⟩ := h
  exact ⟨wg_in h1, wg_in h2, wg_in h3, wg_in h4, wg_in h5, wg_in h6, wg_in h7, wg_in h8, wg_in (of_decide_eq_true h9)⟩
set_option maxRecDepth 100000 in
theorem wpm_all : Cond.static Lib.Math.max.name ∈ gt ∧ Cond.code Lib.Math.max.name Lib.Math.max.code 2 (some .int) ∈ gt ∧ Cond.static Lib.Math.min.name ∈ gt ∧ Cond.code Lib.Math.min.name Lib.Math.min.code 2 (some .int) ∈ gt ∧ Cond.initialized "java/lang/Math" ∈ gt := by
  have h := wpm_ok
  simp only [Bool.and_eq_true] at h
  obtain ⟨⟨⟨⟨h1, h2⟩, h3⟩, h4⟩, h5⟩ := h
  exact ⟨wg_in h1, wg_in h2, wg_in h3, wg_in h4, wg_in h5⟩
theorem st_cut {st : List Value} {n : Nat} {x : Value} (h : st[n]? = some x) : st = (st.take n).reverse.reverse ++ x :: st.drop (n + 1) ∧ (st.take n).reverse.length = n := by
  have hn : n < st.length := (List.getElem?_eq_some_iff.mp h).1
  refine ⟨?_, by rw [List.length_reverse, List.length_take]; omega⟩
  rw [List.reverse_reverse]
  have h1 := (List.take_append_drop n st).symm
  have h2 : st.drop n = x :: st.drop (n + 1) := by
    rw [List.drop_eq_getElem_cons hn]
    congr 1
    exact (List.getElem?_eq_some_iff.mp h).2
  rw [h2] at h1
  exact h1
set_option maxHeartbeats 8000000 in
set_option maxRecDepth 100000 in
/-- a method's walk, from any of its states -/
theorem snd {p : Program} {l : Launch} {e : Env} {R : Room} {s : State} {m : MethodId} {args : Array Value} {below : List Frame} {meth : Method} {c : Code} {Q : State → Prop}
    {D : va_G} {ar : Nat → ClassId} {z b L : Nat} {xs : Nat → Int32} {scr : Cell} {cc : ByteArray} {nL oc d : Nat} {Ts : List Cond} {ini : Bool} {σ0 : Hp} {t : List (Nat × Instr × Nat)} {rt : Option FieldType} {C : Crel} {Qr : Option Value → Hp → Prop}
    (hpg : ∀ md ∈ prog, okMD md = true) (X : Cx p s m args meth c D ar z b L xs scr cc nL oc Ts ini σ0) (hT : okT cc nL oc ini t = true)
    (hC : ∀ j md av σ v σ1, prog[j]? = some md → C j av σ v σ1 → Ct l D ar z b scr d md av σ v σ1) (hCg : ∀ j av σ v σ1, C j av σ v σ1 → gw σ σ1) (hRf : d + 1 ≤ R.frames) (hRl : 38 * d + 38 ≤ R.locals)
    (hQ : ∀ v σ1, Qr v σ1 → σ1.length ≤ σ0.length + R.cells ∧ szH σ1 ≤ szH σ0 + R.slots)
    (hret : ∀ (v : Option Value) (σ1 : Hp) (H : Heap) (locs : List Loc) (cells slots pc : Nat) (ls : Array Slot) (st : List Value) (i : Instr), Qr v σ1 → retI rt v st i → decode cc pc = .ok (i, 1) → WH D ar z b scr σ1 H → va_S (fun q : Nat => z ≤ q) s.heap H locs → σ0.length + cells = σ1.length → szH σ0 + slots = szH σ1 → W p l e R s m args below meth c H locs cells slots Q (F0 m pc ls st)) :
    ∀ (n pc : Nat) (lv : Lv) (st : List Value) (σ : Hp) (H : Heap) (locs : List Loc) (cells slots : Nat) (ls : Array Slot), wp z b L xs C t oc rt Qr n pc lv st σ → lv_has ls nL lv → WH D ar z b scr σ H → va_S (fun q : Nat => z ≤ q) s.heap H locs → σ0.length + cells = σ.length → szH σ0 + slots = szH σ → W p l e R s m args below meth c H locs cells slots Q (F0 m pc ls st) := by
  obtain ⟨hx, hb, hml, ⟨own, hcN, hown⟩, hts, hgt, hK, hini, ⟨hscr1, hscr2, hscr3⟩, hbz, e0, hsb⟩ := id X
  have hbA : ¬ (fun q : Nat => z ≤ q) b := fun q => by
    have q' : z ≤ b := q
    omega
  have hbl : b < s.heap.size := by omega
  have hX : va_X b L xs s s.heap := ⟨scr, hsb, hK.2.2.2.2, hscr1, hscr2, hscr3⟩
  have hA : ∀ {H : Heap} {locs : List Loc}, va_S (fun q : Nat => z ≤ q) s.heap H locs → ∀ q : Nat, H.size ≤ q → z ≤ q := fun hS q hq => by
    have h1 := hS.1
    omega
  intro n
  induction n with
  | zero =>
    intro pc lv st σ H locs cells slots ls h
    exact h.elim
  | succ n ih =>
    intro pc lv st σ H locs cells slots ls h hl hW hS e1 e2
    simp only [wp] at h
    split at h
    case h_2 => exact h.elim
    rename_i q hq
    have hm := lk_mem hq
    unfold okT at hT
    have hT1 := List.all_eq_true.mp hT _ hm
    simp only [Bool.and_eq_true, decide_eq_true_eq] at hT1
    obtain ⟨⟨hd, hi⟩, hj⟩ := hT1
    obtain ⟨i, len⟩ := q
    dsimp only at h hd hi hj
    have hP := hW.1
    have hD := wz_D ar z σ
    cases i with
    | iconst v =>
      have hn : len = 1 := eq_of_beq hi
      subst hn
      exact lv_iconst hx hb hd rfl (ih _ _ _ _ _ _ _ _ _ h hl hW hS e1 e2)
    | bipush v =>
      have hn : len = 2 := eq_of_beq hi
      subst hn
      exact lv_bipush hx hb hd rfl (ih _ _ _ _ _ _ _ _ _ h hl hW hS e1 e2)
    | sipush v =>
      have hn : len = 3 := eq_of_beq hi
      subst hn
      exact lv_sipush hx hb hd rfl (ih _ _ _ _ _ _ _ _ _ h hl hW hS e1 e2)
    | lconst v =>
      have hn : len = 1 := eq_of_beq hi
      subst hn
      exact lv_lconst hx hb hd rfl (ih _ _ _ _ _ _ _ _ _ h hl hW hS e1 e2)
    | aconst_null =>
      have hn : len = 1 := eq_of_beq hi
      subst hn
      exact lv_null hx hb hd (ih _ _ _ _ _ _ _ _ _ h hl hW hS e1 e2)
    | ldc i =>
      have hn : len = 2 := eq_of_beq hi
      subst hn
      simp only [ins] at h
      split at h
      · rename_i v ix hk
        have h1 := kres_ok hk
        simp only [okI, hcN] at h1
        exact lv_ldc hx hb hown (hts _ (hgt _ (wg_in h1))) hd (ih _ _ _ _ _ _ _ _ _ h hl hW hS e1 e2)
      · exact h.elim
    | ldc2_w i =>
      have hn : len = 3 := eq_of_beq hi
      subst hn
      simp only [ins] at h
      split at h
      · rename_i v ix hk
        have h1 := jres_ok hk
        simp only [okJ, hcN] at h1
        exact lv_ldc2 hx hb hown (hts _ (hgt _ (wg_in h1))) hd (ih _ _ _ _ _ _ _ _ _ h hl hW hS e1 e2)
      · exact h.elim
    | iload_n i =>
      have hn : len = 1 := eq_of_beq hi
      subst hn
      simp only [ins] at h
      split at h
      · rename_i x hk
        exact lv_iload_n hx hb hd rfl (hl.2.2 _ (lk_mem hk)) (ih _ _ _ _ _ _ _ _ _ h hl hW hS e1 e2)
      · exact h.elim
    | iload i =>
      have hn : len = 2 := eq_of_beq hi
      subst hn
      simp only [ins] at h
      split at h
      · rename_i x hk
        exact lv_iload hx hb hd (hl.2.2 _ (lk_mem hk)) (ih _ _ _ _ _ _ _ _ _ h hl hW hS e1 e2)
      · exact h.elim
    | lload_n i =>
      have hn : len = 1 := eq_of_beq hi
      subst hn
      simp only [ins] at h
      split at h
      · rename_i x hk
        exact lv_lload_n hx hb hd rfl (hl.2.2 _ (lk_mem hk)) (ih _ _ _ _ _ _ _ _ _ h hl hW hS e1 e2)
      · exact h.elim
    | lload i =>
      have hn : len = 2 := eq_of_beq hi
      subst hn
      simp only [ins] at h
      split at h
      · rename_i x hk
        exact lv_lload hx hb hd (hl.2.2 _ (lk_mem hk)) (ih _ _ _ _ _ _ _ _ _ h hl hW hS e1 e2)
      · exact h.elim
    | aload_n i =>
      have hn : len = 1 := eq_of_beq hi
      subst hn
      simp only [ins] at h
      split at h
      · rename_i x hk
        exact lv_aload_n hx hb hd rfl (hl.2.2 _ (lk_mem hk)) (ih _ _ _ _ _ _ _ _ _ h hl hW hS e1 e2)
      · rename_i hk
        exact lv_aload_nN hx hb hd rfl (hl.2.2 _ (lk_mem hk)) (ih _ _ _ _ _ _ _ _ _ h hl hW hS e1 e2)
      · exact h.elim
    | aload i =>
      have hn : len = 2 := eq_of_beq hi
      subst hn
      simp only [ins] at h
      split at h
      · rename_i x hk
        exact lv_aload hx hb hd (hl.2.2 _ (lk_mem hk)) (ih _ _ _ _ _ _ _ _ _ h hl hW hS e1 e2)
      · rename_i hk
        exact lv_aloadN hx hb hd (hl.2.2 _ (lk_mem hk)) (ih _ _ _ _ _ _ _ _ _ h hl hW hS e1 e2)
      · exact h.elim
    | istore_n i =>
      have hn : len = 1 := eq_of_beq hi
      subst hn
      simp only [ins] at h
      split at h
      · exact lv_istore_n hx hb hd rfl hl (of_decide_eq_true hj) rfl (fun ls hl => ih _ _ _ _ _ _ _ _ ls h hl hW hS e1 e2)
      · exact h.elim
    | istore i =>
      have hn : len = 2 := eq_of_beq hi
      subst hn
      simp only [ins] at h
      split at h
      · exact lv_istore hx hb hd hl (of_decide_eq_true hj) rfl (fun ls hl => ih _ _ _ _ _ _ _ _ ls h hl hW hS e1 e2)
      · exact h.elim
    | lstore_n i =>
      have hn : len = 1 := eq_of_beq hi
      subst hn
      simp only [ins] at h
      split at h
      · exact lv_lstore_n hx hb hd rfl hl (of_decide_eq_true hj) rfl (fun ls hl => ih _ _ _ _ _ _ _ _ ls h hl hW hS e1 e2)
      · exact h.elim
    | lstore i =>
      have hn : len = 2 := eq_of_beq hi
      subst hn
      simp only [ins] at h
      split at h
      · exact lv_lstore hx hb hd hl (of_decide_eq_true hj) rfl (fun ls hl => ih _ _ _ _ _ _ _ _ ls h hl hW hS e1 e2)
      · exact h.elim
    | astore_n i =>
      have hn : len = 1 := eq_of_beq hi
      subst hn
      simp only [ins] at h
      split at h
      · exact lv_astore_n hx hb hd rfl hl (of_decide_eq_true hj) rfl (fun ls hl => ih _ _ _ _ _ _ _ _ ls h hl hW hS e1 e2)
      · exact lv_astore_nN hx hb hd rfl hl (of_decide_eq_true hj) rfl (fun ls hl => ih _ _ _ _ _ _ _ _ ls h hl hW hS e1 e2)
      · exact h.elim
    | astore i =>
      have hn : len = 2 := eq_of_beq hi
      subst hn
      simp only [ins] at h
      split at h
      · exact lv_astore hx hb hd hl (of_decide_eq_true hj) rfl (fun ls hl => ih _ _ _ _ _ _ _ _ ls h hl hW hS e1 e2)
      · exact lv_astoreN hx hb hd hl (of_decide_eq_true hj) rfl (fun ls hl => ih _ _ _ _ _ _ _ _ ls h hl hW hS e1 e2)
      · exact h.elim
    | iinc i v =>
      have hn : len = 3 := eq_of_beq hi
      subst hn
      simp only [ins] at h
      split at h
      · rename_i x hk
        obtain ⟨q, hq⟩ := List.getElem?_of_mem (lk_mem hk)
        exact lv_iinc hx hb hd hl hq rfl (of_decide_eq_true hj) rfl (fun ls hl => ih _ _ _ _ _ _ _ _ ls h hl hW hS e1 e2)
      · exact h.elim
    | iadd =>
      have hn : len = 1 := eq_of_beq hi
      subst hn
      simp only [ins] at h
      split at h
      · exact lv_iadd hx hb hd (ih _ _ _ _ _ _ _ _ _ h hl hW hS e1 e2)
      · exact h.elim
    | isub =>
      have hn : len = 1 := eq_of_beq hi
      subst hn
      simp only [ins] at h
      split at h
      · exact lv_isub hx hb hd (ih _ _ _ _ _ _ _ _ _ h hl hW hS e1 e2)
      · exact h.elim
    | imul =>
      have hn : len = 1 := eq_of_beq hi
      subst hn
      simp only [ins] at h
      split at h
      · exact lv_imul hx hb hd (ih _ _ _ _ _ _ _ _ _ h hl hW hS e1 e2)
      · exact h.elim
    | iand =>
      have hn : len = 1 := eq_of_beq hi
      subst hn
      simp only [ins] at h
      split at h
      · exact lv_iand hx hb hd (ih _ _ _ _ _ _ _ _ _ h hl hW hS e1 e2)
      · exact h.elim
    | ladd =>
      have hn : len = 1 := eq_of_beq hi
      subst hn
      simp only [ins] at h
      split at h
      · exact lv_ladd hx hb hd (ih _ _ _ _ _ _ _ _ _ h hl hW hS e1 e2)
      · exact h.elim
    | lsub =>
      have hn : len = 1 := eq_of_beq hi
      subst hn
      simp only [ins] at h
      split at h
      · exact lv_lsub hx hb hd (ih _ _ _ _ _ _ _ _ _ h hl hW hS e1 e2)
      · exact h.elim
    | lmul =>
      have hn : len = 1 := eq_of_beq hi
      subst hn
      simp only [ins] at h
      split at h
      · exact lv_lmul hx hb hd (ih _ _ _ _ _ _ _ _ _ h hl hW hS e1 e2)
      · exact h.elim
    | land =>
      have hn : len = 1 := eq_of_beq hi
      subst hn
      simp only [ins] at h
      split at h
      · exact lv_land hx hb hd (ih _ _ _ _ _ _ _ _ _ h hl hW hS e1 e2)
      · exact h.elim
    | lor =>
      have hn : len = 1 := eq_of_beq hi
      subst hn
      simp only [ins] at h
      split at h
      · exact lv_lor hx hb hd (ih _ _ _ _ _ _ _ _ _ h hl hW hS e1 e2)
      · exact h.elim
    | ineg =>
      have hn : len = 1 := eq_of_beq hi
      subst hn
      simp only [ins] at h
      split at h
      · exact lv_ineg hx hb hd (ih _ _ _ _ _ _ _ _ _ h hl hW hS e1 e2)
      · exact h.elim
    | ishr =>
      have hn : len = 1 := eq_of_beq hi
      subst hn
      simp only [ins] at h
      split at h
      · exact lv_ishr hx hb hd (ih _ _ _ _ _ _ _ _ _ h hl hW hS e1 e2)
      · exact h.elim
    | idiv =>
      have hn : len = 1 := eq_of_beq hi
      subst hn
      simp only [ins] at h
      split at h
      · exact lv_idiv hx hb hd h.1 (ih _ _ _ _ _ _ _ _ _ h.2 hl hW hS e1 e2)
      · exact h.elim
    | ldiv =>
      have hn : len = 1 := eq_of_beq hi
      subst hn
      simp only [ins] at h
      split at h
      · exact lv_ldiv hx hb hd h.1 (ih _ _ _ _ _ _ _ _ _ h.2 hl hW hS e1 e2)
      · exact h.elim
    | lrem =>
      have hn : len = 1 := eq_of_beq hi
      subst hn
      simp only [ins] at h
      split at h
      · exact lv_lrem hx hb hd h.1 (ih _ _ _ _ _ _ _ _ _ h.2 hl hW hS e1 e2)
      · exact h.elim
    | lcmp =>
      have hn : len = 1 := eq_of_beq hi
      subst hn
      simp only [ins] at h
      split at h
      · exact W.lcmp hx hb hd (ih _ _ _ _ _ _ _ _ _ h hl hW hS e1 e2)
      · exact h.elim
    | lushr =>
      have hn : len = 1 := eq_of_beq hi
      subst hn
      simp only [ins] at h
      split at h
      · exact lv_lushr hx hb hd rfl (ih _ _ _ _ _ _ _ _ _ h hl hW hS e1 e2)
      · exact h.elim
    | lshl =>
      have hn : len = 1 := eq_of_beq hi
      subst hn
      simp only [ins] at h
      split at h
      · exact lv_lshl hx hb hd rfl (ih _ _ _ _ _ _ _ _ _ h hl hW hS e1 e2)
      · exact h.elim
    | i2l =>
      have hn : len = 1 := eq_of_beq hi
      subst hn
      simp only [ins] at h
      split at h
      · exact lv_i2l hx hb hd rfl (ih _ _ _ _ _ _ _ _ _ h hl hW hS e1 e2)
      · exact h.elim
    | l2i =>
      have hn : len = 1 := eq_of_beq hi
      subst hn
      simp only [ins] at h
      split at h
      · exact lv_l2i hx hb hd rfl (ih _ _ _ _ _ _ _ _ _ h hl hW hS e1 e2)
      · exact h.elim
    | i2b =>
      have hn : len = 1 := eq_of_beq hi
      subst hn
      simp only [ins] at h
      split at h
      · exact lv_i2b hx hb hd rfl (ih _ _ _ _ _ _ _ _ _ h hl hW hS e1 e2)
      · exact h.elim
    | dup =>
      have hn : len = 1 := eq_of_beq hi
      subst hn
      simp only [ins] at h
      split at h
      · exact lv_dup hx hb hd h.1 (ih _ _ _ _ _ _ _ _ _ h.2 hl hW hS e1 e2)
      · exact h.elim
    | pop =>
      have hn : len = 1 := eq_of_beq hi
      subst hn
      simp only [ins] at h
      split at h
      · exact lv_pop hx hb hd h.1 (ih _ _ _ _ _ _ _ _ _ h.2 hl hW hS e1 e2)
      · exact h.elim
    | dup2 =>
      have hn : len = 1 := eq_of_beq hi
      subst hn
      simp only [ins] at h
      split at h
      · exact lv_dup2_11 hx hb hd h.1 h.2.1 (ih _ _ _ _ _ _ _ _ _ h.2.2 hl hW hS e1 e2)
      · exact h.elim
    | goto f =>
      have hn : len = 3 := eq_of_beq hi
      subst hn
      have ht : (pc : Int) + f = ((jt pc f : Nat) : Int) := (Int.toNat_of_nonneg (of_decide_eq_true hj)).symm
      exact lv_goto hx hb hd ht (ih _ _ _ _ _ _ _ _ _ h hl hW hS e1 e2)
    | ifCond cnd f =>
      have hn : len = 3 := eq_of_beq hi
      subst hn
      have ht : (pc : Int) + f = ((jt pc f : Nat) : Int) := (Int.toNat_of_nonneg (of_decide_eq_true hj)).symm
      simp only [ins] at h
      split at h
      · cases cnd with
        | eq => exact lv_if_eq hx hb hd ht (fun q => (ih _ _ _ _ _ _ _ _ _ (h.1 q) hl hW hS e1 e2)) (fun q => (ih _ _ _ _ _ _ _ _ _ (h.2 q) hl hW hS e1 e2))
        | ne => exact lv_if_ne hx hb hd ht (fun q => (ih _ _ _ _ _ _ _ _ _ (h.1 q) hl hW hS e1 e2)) (fun q => (ih _ _ _ _ _ _ _ _ _ (h.2 (fun nq => nq q)) hl hW hS e1 e2))
        | lt => exact lv_if_lt hx hb hd ht (fun q => (ih _ _ _ _ _ _ _ _ _ (h.1 q) hl hW hS e1 e2)) (fun q => (ih _ _ _ _ _ _ _ _ _ (h.2 q) hl hW hS e1 e2))
        | ge => exact lv_if_ge hx hb hd ht (fun q => (ih _ _ _ _ _ _ _ _ _ (h.1 q) hl hW hS e1 e2)) (fun q => (ih _ _ _ _ _ _ _ _ _ (h.2 q) hl hW hS e1 e2))
        | gt => exact lv_if_gt hx hb hd ht (fun q => (ih _ _ _ _ _ _ _ _ _ (h.1 q) hl hW hS e1 e2)) (fun q => (ih _ _ _ _ _ _ _ _ _ (h.2 q) hl hW hS e1 e2))
        | le => exact lv_if_le hx hb hd ht (fun q => (ih _ _ _ _ _ _ _ _ _ (h.1 q) hl hW hS e1 e2)) (fun q => (ih _ _ _ _ _ _ _ _ _ (h.2 q) hl hW hS e1 e2))
      · exact h.elim
    | if_icmp cnd f =>
      have hn : len = 3 := eq_of_beq hi
      subst hn
      have ht : (pc : Int) + f = ((jt pc f : Nat) : Int) := (Int.toNat_of_nonneg (of_decide_eq_true hj)).symm
      simp only [ins] at h
      split at h
      · cases cnd with
        | eq => exact lv_icmp_eq hx hb hd ht (fun q => (ih _ _ _ _ _ _ _ _ _ (h.1 q) hl hW hS e1 e2)) (fun q => (ih _ _ _ _ _ _ _ _ _ (h.2 q) hl hW hS e1 e2))
        | ne => exact lv_icmp_ne hx hb hd ht (fun q => (ih _ _ _ _ _ _ _ _ _ (h.1 q) hl hW hS e1 e2)) (fun q => (ih _ _ _ _ _ _ _ _ _ (h.2 (fun nq => nq q)) hl hW hS e1 e2))
        | lt => exact lv_icmp_lt hx hb hd ht (fun q => (ih _ _ _ _ _ _ _ _ _ (h.1 q) hl hW hS e1 e2)) (fun q => (ih _ _ _ _ _ _ _ _ _ (h.2 q) hl hW hS e1 e2))
        | ge => exact lv_icmp_ge hx hb hd ht (fun q => (ih _ _ _ _ _ _ _ _ _ (h.1 q) hl hW hS e1 e2)) (fun q => (ih _ _ _ _ _ _ _ _ _ (h.2 q) hl hW hS e1 e2))
        | gt => exact lv_icmp_gt hx hb hd ht (fun q => (ih _ _ _ _ _ _ _ _ _ (h.1 q) hl hW hS e1 e2)) (fun q => (ih _ _ _ _ _ _ _ _ _ (h.2 q) hl hW hS e1 e2))
        | le => exact lv_icmp_le hx hb hd ht (fun q => (ih _ _ _ _ _ _ _ _ _ (h.1 q) hl hW hS e1 e2)) (fun q => (ih _ _ _ _ _ _ _ _ _ (h.2 q) hl hW hS e1 e2))
      · exact h.elim
    | ifnull f =>
      have hn : len = 3 := eq_of_beq hi
      subst hn
      have ht : (pc : Int) + f = ((jt pc f : Nat) : Int) := (Int.toNat_of_nonneg (of_decide_eq_true hj)).symm
      simp only [ins] at h
      split at h
      · exact lv_ifnullN hx hb hd ht (ih _ _ _ _ _ _ _ _ _ h hl hW hS e1 e2)
      · exact lv_ifnull hx hb hd (ih _ _ _ _ _ _ _ _ _ h hl hW hS e1 e2)
      · exact h.elim
    | ifnonnull f =>
      have hn : len = 3 := eq_of_beq hi
      subst hn
      have ht : (pc : Int) + f = ((jt pc f : Nat) : Int) := (Int.toNat_of_nonneg (of_decide_eq_true hj)).symm
      simp only [ins] at h
      split at h
      · exact lv_ifnonnullN hx hb hd (ih _ _ _ _ _ _ _ _ _ h hl hW hS e1 e2)
      · exact lv_ifnonnull hx hb hd ht (ih _ _ _ _ _ _ _ _ _ h hl hW hS e1 e2)
      · exact h.elim
    | if_acmp cnd f =>
      have hn : len = 3 := eq_of_beq hi
      subst hn
      have ht : (pc : Int) + f = ((jt pc f : Nat) : Int) := (Int.toNat_of_nonneg (of_decide_eq_true hj)).symm
      simp only [ins] at h
      split at h
      · obtain ⟨rx, ry, rfl, rfl, h⟩ := h
        cases cnd with
        | eq => exact lv_acmp_eq hx hb hd ht (fun q => (ih _ _ _ _ _ _ _ _ _ (h.1 q) hl hW hS e1 e2)) (fun q => (ih _ _ _ _ _ _ _ _ _ (h.2 q) hl hW hS e1 e2))
        | ne => exact lv_acmp_ne hx hb hd ht (fun q => (ih _ _ _ _ _ _ _ _ _ (h.1 q) hl hW hS e1 e2)) (fun q => (ih _ _ _ _ _ _ _ _ _ (h.2 q) hl hW hS e1 e2))
      · exact h.elim
    | tableswitch df lo hh offs =>
      simp only [ins] at h
      split at h
      · rename_i x r
        simp only [iln, Bool.and_eq_true, decide_eq_true_eq] at hi
        simp only [ijp, Bool.and_eq_true, decide_eq_true_eq] at hj
        by_cases hr : x.toInt < lo ∨ hh < x.toInt
        · have hsw : swt df lo hh offs x.toInt = df := if_pos hr
          rw [hsw] at h
          exact lv_tableOut hx hb hd hr (Int.toNat_of_nonneg hj.1).symm (ih _ _ _ _ _ _ _ _ _ h hl hW hS e1 e2)
        · have h1 : ¬ x.toInt < lo := fun q => hr (Or.inl q)
          have h2 : ¬ hh < x.toInt := fun q => hr (Or.inr q)
          have h3 : (x.toInt - lo).toNat < offs.size := by omega
          have hsw : swt df lo hh offs x.toInt = offs[(x.toInt - lo).toNat] := by
            unfold swt
            rw [if_neg hr, Array.getElem?_eq_getElem h3]
            rfl
          rw [hsw] at h
          have h4 := Array.all_eq_true.mp hj.2 _ h3
          exact lv_tableIn hx hb hd h1 h2 (Array.getElem?_eq_getElem h3) (Int.toNat_of_nonneg (of_decide_eq_true h4)).symm (ih _ _ _ _ _ _ _ _ _ h hl hW hS e1 e2)
      · exact h.elim
    | lookupswitch df ps =>
      simp only [ins] at h
      split at h
      · rename_i x r
        simp only [iln] at hi
        simp only [ijp, Bool.and_eq_true, decide_eq_true_eq] at hj
        have ho : 0 ≤ (pc : Int) + Op.lookupswitch.offset ps.toList df x.toInt := by
          have hg : ∀ l : List (Int × Int), (∀ q ∈ l, 0 ≤ (pc : Int) + q.2) → 0 ≤ (pc : Int) + Op.lookupswitch.offset l df x.toInt := by
            intro l
            induction l with
            | nil => intro _; exact hj.1
            | cons a l il =>
              intro hh
              obtain ⟨a1, a2⟩ := a
              rw [Op.lookupswitch.offset_cons]
              split
              · exact hh _ List.mem_cons_self
              · exact il (fun q hq => hh q (List.mem_cons_of_mem _ hq))
          refine hg _ (fun q hq => ?_)
          obtain ⟨k, hk⟩ := List.getElem?_of_mem hq
          have hk1 := (List.getElem?_eq_some_iff.mp hk)
          obtain ⟨hk2, hk3⟩ := hk1
          have h4 := Array.all_eq_true.mp hj.2 k (by simpa using hk2)
          have h5 := of_decide_eq_true h4
          rw [← hk3]
          simpa using h5
        exact lv_lookup hx hb hd hi rfl (Int.toNat_of_nonneg ho).symm (ih _ _ _ _ _ _ _ _ _ h hl hW hS e1 e2)
      · exact h.elim
    | getfield i =>
      have hn : len = 3 := eq_of_beq hi
      subst hn
      simp only [ins] at h
      split at h
      · rename_i ci k ix a rs hf
        obtain ⟨fs, v, hc, hv, h⟩ := h
        have hge := cel_ge hc (fun _ _ q => by cases q)
        obtain ⟨r, hr, hk, hlk⟩ := fres_sp hcN hf
        exact va_get (D := D) (ci := ci) (C := r.1) (T := r.2.1) (N := r.2.2) hx hb hts (fun w hw => hgt w (cl_lay hr w hw)) hown hK.1 hP (a - z) (wz_cel (cel_own hc hge) hge) hr k hk (hts _ (hgt _ hlk)) (fun _ q => q) hv hd (ih _ _ _ _ _ _ _ _ _ h hl hW hS e1 e2)
      · exact h.elim
    | putfield i =>
      have hn : len = 3 := eq_of_beq hi
      subst hn
      simp only [ins] at h
      split at h
      · rename_i ci k ix v a rs hf
        obtain ⟨fs, hc, hkl, hfit, h⟩ := h
        have hge := cel_ge hc (fun _ _ q => by cases q)
        obtain ⟨r, hr, hk, hlk⟩ := fres_sp hcN hf
        obtain ⟨g1, g2, g3, g4⟩ := cl_fld hr hk
        obtain ⟨f1, f2⟩ := fitV_ok hfit
        simp only [ijp, hf] at hj
        by_cases hfin : (fFi.getD ci []).getD k false = true
        · rw [hfin] at hj
          simp only [Bool.not_true, Bool.false_or, Bool.and_eq_true, decide_eq_true_eq] at hj
          obtain ⟨hj1, rfl⟩ := hj
          have ho : (r.2.1 k).1 = own := by
            rw [g3, List.getD_eq_getElem?_getD, hcN]
            rfl
          exact va_putF (D := D) (C := r.1) (T := r.2.1) (N := r.2.2) hx hb hts (fun w hw => hgt w (cl_lay hr w hw)) (fun k => (fTy.getD ci []).getD k .int) (fun k hk => (cl_fld hr hk).1) (nm_ok hr) hown hK.1 hP hD (vS_self hS) (a - z) (wz_cel (cel_own hc hge) hge) hr k hk (hts _ (hgt _ hlk)) (fun _ q => q) (by rw [g2]; exact hfin) (hini hj1) ho g1 f1 f2 hkl hd (fun H1 locs1 hP1 hD1 hS1 => W_size fun hsz => by
            rw [show (Sum.inr (ci, fs.set k v) : va_E) = trE ar (oB ci (fs.set k v)) from rfl, wz_upc _ hge] at hP1
            exact ih _ _ _ _ _ _ _ _ _ h hl (WH_store (s := s) hW hS1 hP1 (upc_len _ _ _ _) hsz e0 e1 hbz) (vS_tr hS hS1) (by rw [upc_len]; exact e1) (e2.trans (Eq.symm (szH_upc (cel_own hc hge) (by rfl)))))
        · exact va_put (D := D) (C := r.1) (T := r.2.1) (N := r.2.2) hx hb hts (fun w hw => hgt w (cl_lay hr w hw)) (fun k => (fTy.getD ci []).getD k .int) (fun k hk => (cl_fld hr hk).1) (nm_ok hr) hown hK.1 hP hD (vS_self hS) (a - z) (wz_cel (cel_own hc hge) hge) hr k hk (hts _ (hgt _ hlk)) (fun _ q => q) (by rw [g2]; exact Bool.not_eq_true _ ▸ hfin) g1 f1 f2 hkl hd (fun H1 locs1 hP1 hD1 hS1 => W_size fun hsz => by
            rw [show (Sum.inr (ci, fs.set k v) : va_E) = trE ar (oB ci (fs.set k v)) from rfl, wz_upc _ hge] at hP1
            exact ih _ _ _ _ _ _ _ _ _ h hl (WH_store (s := s) hW hS1 hP1 (upc_len _ _ _ _) hsz e0 e1 hbz) (vS_tr hS hS1) (by rw [upc_len]; exact e1) (e2.trans (Eq.symm (szH_upc (cel_own hc hge) (by rfl)))))
      · exact h.elim
    | iaload =>
      have hn : len = 1 := eq_of_beq hi
      subst hn
      simp only [ins] at h
      split at h
      · rename_i i a r
        obtain ⟨n', f, hc, hin, h⟩ := h
        by_cases hge : z ≤ a
        · exact va_iald hx hb hK.1 hP (a - z) 0 (wz_cel (cel_own hc hge) hge) rfl hin hd (ih _ _ _ _ _ _ _ _ _ h hl hW hS e1 e2)
        · obtain ⟨rfl, hq2⟩ := cel_lo hc hge
          cases hq2
          exact va_sld hx hb hX hbl hbA hS hin hd (ih _ _ _ _ _ _ _ _ _ h hl hW hS e1 e2)
      · exact h.elim
    | laload =>
      have hn : len = 1 := eq_of_beq hi
      subst hn
      simp only [ins] at h
      split at h
      · rename_i i a r
        obtain ⟨n', f, hc, hin, h⟩ := h
        have hge := cel_ge hc (fun _ _ q => by cases q)
        exact va_lald hx hb hK.1 hP (a - z) 1 (wz_cel (cel_own hc hge) hge) rfl hin hd (ih _ _ _ _ _ _ _ _ _ h hl hW hS e1 e2)
      · exact h.elim
    | baload =>
      have hn : len = 1 := eq_of_beq hi
      subst hn
      simp only [ins] at h
      split at h
      · rename_i i a r
        obtain ⟨n', f, hc | hc, hin, h⟩ := h
        · have hge := cel_ge hc (fun _ _ q => by cases q)
          exact va_bald hx hb hK.1 hP (a - z) 2 (wz_cel (cel_own hc hge) hge) rfl hin hd (ih _ _ _ _ _ _ _ _ _ h hl hW hS e1 e2)
        · have hge := cel_ge hc (fun _ _ q => by cases q)
          exact va_zald hx hb hK.1 hP (a - z) 3 (wz_cel (cel_own hc hge) hge) rfl hin hd (ih _ _ _ _ _ _ _ _ _ h hl hW hS e1 e2)
      · exact h.elim
    | aaload =>
      have hn : len = 1 := eq_of_beq hi
      subst hn
      simp only [ins] at h
      split at h
      · rename_i i a r
        obtain ⟨t', n', f, hc, ht', hin, h⟩ := h
        have hge := cel_ge hc (fun _ _ q => by cases q)
        rcases ht' with rfl | rfl
        · exact va_aldq hx hb hK.1 hP (a - z) 4 (wz_cel (cel_own hc hge) hge) rfl hin hd (ih _ _ _ _ _ _ _ _ _ h hl hW hS e1 e2)
        · exact va_aldq hx hb hK.1 hP (a - z) 5 (wz_cel (cel_own hc hge) hge) rfl hin hd (ih _ _ _ _ _ _ _ _ _ h hl hW hS e1 e2)
      · exact h.elim
    | iastore =>
      have hn : len = 1 := eq_of_beq hi
      subst hn
      simp only [ins] at h
      split at h
      · rename_i x i a r
        obtain ⟨n', f, hc, hge, hin, h⟩ := h
        exact va_iast hx hb hK.1 hP hD (vS_self hS) (a - z) 0 (wz_cel (cel_own hc hge) hge) rfl hin hd (fun H1 locs1 hP1 hD1 hS1 => W_size fun hsz => by
          have hP1 : va_P D vwCl ((wz ar z σ).set (a - z) (a, trE ar (aI n' (upd f i.toNatClampNeg x)))) H1 := hP1
          rw [wz_upc _ hge] at hP1
          exact ih _ _ _ _ _ _ _ _ _ h hl (WH_store (s := s) hW hS1 hP1 (upc_len _ _ _ _) hsz e0 e1 hbz) (vS_tr hS hS1) (by rw [upc_len]; exact e1) (e2.trans (Eq.symm (szH_upc (cel_own hc hge) (by rfl)))))
      · exact h.elim
    | lastore =>
      have hn : len = 1 := eq_of_beq hi
      subst hn
      simp only [ins] at h
      split at h
      · rename_i x i a r
        obtain ⟨n', f, hc, hin, h⟩ := h
        have hge := cel_ge hc (fun _ _ q => by cases q)
        exact va_last hx hb hK.1 hP hD (vS_self hS) (a - z) 1 (wz_cel (cel_own hc hge) hge) rfl hin hd (fun H1 locs1 hP1 hD1 hS1 => W_size fun hsz => by
          have hP1 : va_P D vwCl ((wz ar z σ).set (a - z) (a, trE ar (aJ n' (vp_updL f i.toNatClampNeg x)))) H1 := hP1
          rw [wz_upc _ hge] at hP1
          exact ih _ _ _ _ _ _ _ _ _ h hl (WH_store (s := s) hW hS1 hP1 (upc_len _ _ _ _) hsz e0 e1 hbz) (vS_tr hS hS1) (by rw [upc_len]; exact e1) (e2.trans (Eq.symm (szH_upc (cel_own hc hge) (by rfl)))))
      · exact h.elim
    | bastore =>
      have hn : len = 1 := eq_of_beq hi
      subst hn
      simp only [ins] at h
      split at h
      · rename_i x i a r
        obtain ⟨n', f, hin, ⟨hc, h⟩ | ⟨hc, h⟩⟩ := h
        · have hge := cel_ge hc (fun _ _ q => by cases q)
          exact va_bast hx hb hK.1 hP hD (vS_self hS) (a - z) 2 (wz_cel (cel_own hc hge) hge) rfl hin hd (fun H1 locs1 hP1 hD1 hS1 => W_size fun hsz => by
          have hP1 : va_P D vwCl ((wz ar z σ).set (a - z) (a, trE ar (aB n' (upd f i.toNatClampNeg (vp_nar .byte x))))) H1 := hP1
          rw [wz_upc _ hge] at hP1
          exact ih _ _ _ _ _ _ _ _ _ h hl (WH_store (s := s) hW hS1 hP1 (upc_len _ _ _ _) hsz e0 e1 hbz) (vS_tr hS hS1) (by rw [upc_len]; exact e1) (e2.trans (Eq.symm (szH_upc (cel_own hc hge) (by rfl)))))
        · have hge := cel_ge hc (fun _ _ q => by cases q)
          exact va_zast hx hb hK.1 hP hD (vS_self hS) (a - z) 3 (wz_cel (cel_own hc hge) hge) rfl hin hd (fun H1 locs1 hP1 hD1 hS1 => W_size fun hsz => by
          have hP1 : va_P D vwCl ((wz ar z σ).set (a - z) (a, trE ar (aZ n' (upd f i.toNatClampNeg (vp_nar .boolean x))))) H1 := hP1
          rw [wz_upc _ hge] at hP1
          exact ih _ _ _ _ _ _ _ _ _ h hl (WH_store (s := s) hW hS1 hP1 (upc_len _ _ _ _) hsz e0 e1 hbz) (vS_tr hS hS1) (by rw [upc_len]; exact e1) (e2.trans (Eq.symm (szH_upc (cel_own hc hge) (by rfl)))))
      · exact h.elim
    | aastore =>
      have hn : len = 1 := eq_of_beq hi
      subst hn
      simp only [ins] at h
      split at h
      · rename_i v i a r
        obtain ⟨t', n', f, fs, hc, hin, hv, h⟩ := h
        have hge := cel_ge hc (fun _ _ q => by cases q)
        rcases hv with ⟨rfl, hv⟩ | ⟨rfl, hv⟩
        · have hgv := cel_ge hv (fun _ _ q => by cases q)
          exact va_astq (r := (RX7, TX7, 4)) hx hb hK.1 hP hD (vS_self hS) (a - z) 4 (v - z) 7 (wz_cel (cel_own hc hge) hge) rfl (wz_cel (cel_own hv hgv) hgv) rfl hin hd (fun H1 locs1 hP1 hD1 hS1 => W_size fun hsz => by
          have hP1 : va_P D vwCl ((wz ar z σ).set (a - z) (a, trE ar (aR 4 n' (va_up f i.toNatClampNeg (some v))))) H1 := hP1
          rw [wz_upc _ hge] at hP1
          exact ih _ _ _ _ _ _ _ _ _ h hl (WH_store (s := s) hW hS1 hP1 (upc_len _ _ _ _) hsz e0 e1 hbz) (vS_tr hS hS1) (by rw [upc_len]; exact e1) (e2.trans (Eq.symm (szH_upc (cel_own hc hge) (by rfl)))))
        · have hgv := cel_ge hv (fun _ _ q => by cases q)
          exact va_astq (r := (RX6, TX6, 11)) hx hb hK.1 hP hD (vS_self hS) (a - z) 5 (v - z) 6 (wz_cel (cel_own hc hge) hge) rfl (wz_cel (cel_own hv hgv) hgv) rfl hin hd (fun H1 locs1 hP1 hD1 hS1 => W_size fun hsz => by
          have hP1 : va_P D vwCl ((wz ar z σ).set (a - z) (a, trE ar (aR 5 n' (va_up f i.toNatClampNeg (some v))))) H1 := hP1
          rw [wz_upc _ hge] at hP1
          exact ih _ _ _ _ _ _ _ _ _ h hl (WH_store (s := s) hW hS1 hP1 (upc_len _ _ _ _) hsz e0 e1 hbz) (vS_tr hS hS1) (by rw [upc_len]; exact e1) (e2.trans (Eq.symm (szH_upc (cel_own hc hge) (by rfl)))))
      · rename_i i a r
        obtain ⟨t', n', f, hc, ht', hin, h⟩ := h
        have hge := cel_ge hc (fun _ _ q => by cases q)
        rcases ht' with rfl | rfl
        · exact va_astqN hx hb hK.1 hP hD (vS_self hS) (a - z) 4 (wz_cel (cel_own hc hge) hge) rfl hin hd (fun H1 locs1 hP1 hD1 hS1 => W_size fun hsz => by
          have hP1 : va_P D vwCl ((wz ar z σ).set (a - z) (a, trE ar (aR 4 n' (va_up f i.toNatClampNeg none)))) H1 := hP1
          rw [wz_upc _ hge] at hP1
          exact ih _ _ _ _ _ _ _ _ _ h hl (WH_store (s := s) hW hS1 hP1 (upc_len _ _ _ _) hsz e0 e1 hbz) (vS_tr hS hS1) (by rw [upc_len]; exact e1) (e2.trans (Eq.symm (szH_upc (cel_own hc hge) (by rfl)))))
        · exact va_astqN hx hb hK.1 hP hD (vS_self hS) (a - z) 5 (wz_cel (cel_own hc hge) hge) rfl hin hd (fun H1 locs1 hP1 hD1 hS1 => W_size fun hsz => by
          have hP1 : va_P D vwCl ((wz ar z σ).set (a - z) (a, trE ar (aR 5 n' (va_up f i.toNatClampNeg none)))) H1 := hP1
          rw [wz_upc _ hge] at hP1
          exact ih _ _ _ _ _ _ _ _ _ h hl (WH_store (s := s) hW hS1 hP1 (upc_len _ _ _ _) hsz e0 e1 hbz) (vS_tr hS hS1) (by rw [upc_len]; exact e1) (e2.trans (Eq.symm (szH_upc (cel_own hc hge) (by rfl)))))
      · exact h.elim
    | arraylength =>
      have hn : len = 1 := eq_of_beq hi
      subst hn
      simp only [ins] at h
      split at h
      · rename_i a r
        obtain ⟨t', n', x', hc, ht', h⟩ := h
        by_cases hge : z ≤ a
        · rcases (show t' = 0 ∨ t' = 1 ∨ t' = 2 ∨ t' = 3 ∨ t' = 4 ∨ t' = 5 by omega) with rfl | rfl | rfl | rfl | rfl | rfl
          · exact va_alen hx hb hK.1 hP (a - z) 0 (wz_cel (cel_own hc hge) hge) rfl rfl hd (ih _ _ _ _ _ _ _ _ _ h hl hW hS e1 e2)
          · exact va_alen hx hb hK.1 hP (a - z) 1 (wz_cel (cel_own hc hge) hge) rfl rfl hd (ih _ _ _ _ _ _ _ _ _ h hl hW hS e1 e2)
          · exact va_alen hx hb hK.1 hP (a - z) 2 (wz_cel (cel_own hc hge) hge) rfl rfl hd (ih _ _ _ _ _ _ _ _ _ h hl hW hS e1 e2)
          · exact va_alen hx hb hK.1 hP (a - z) 3 (wz_cel (cel_own hc hge) hge) rfl rfl hd (ih _ _ _ _ _ _ _ _ _ h hl hW hS e1 e2)
          · exact va_alen hx hb hK.1 hP (a - z) 4 (wz_cel (cel_own hc hge) hge) rfl rfl hd (ih _ _ _ _ _ _ _ _ _ h hl hW hS e1 e2)
          · exact va_alen hx hb hK.1 hP (a - z) 5 (wz_cel (cel_own hc hge) hge) rfl rfl hd (ih _ _ _ _ _ _ _ _ _ h hl hW hS e1 e2)
        · obtain ⟨rfl, hq2⟩ := cel_lo hc hge
          cases hq2
          exact va_slen hx hb hX hbl hbA hS hd (ih _ _ _ _ _ _ _ _ _ h hl hW hS e1 e2)
      · exact h.elim
    | newarray at_ =>
      have hn : len = 2 := eq_of_beq hi
      subst hn
      simp only [ins] at h
      split at h
      · rename_i x r
        obtain ⟨h1, h2, h⟩ := h
        cases at_ with
        | int =>
          have hfin := wp_gw hCg n _ _ _ _ h
          obtain ⟨v9, σ9, q9, g91, g92⟩ := hfin
          have hb9 := hQ v9 σ9 q9
          rw [List.length_append, List.length_singleton] at g91
          rw [szH_app] at g92
          have hs9 : szH σ + x.toNatClampNeg ≤ szH σ9 := g92
          refine va_newa (atype := .int) hx hb (hts _ (hgt _ (wpl_all.2.2.2.2.2.1))) rfl hK.1 hP hD (vS_self hS) (hA hS) (a0 := (x.toNatClampNeg, .inl (fun _ => 0))) (fun _ => rfl) h1 rfl (Nat.le_trans (Nat.mul_le_mul_right _ h2) (by decide)) (by omega) (by omega) hd (fun q cA H1 hK1 hP1 hD1 hS1 => ?_)
          have hcA : cA = ar 0 := ar_eq (hK1.2 6 (cA, .int) rfl).2 (hK1.2 0 (ar 0, .int) rfl).2
          subst hcA
          refine W_size fun hsz => ?_
          obtain ⟨rfl, hW1⟩ := WH_make (s := s) (x := aI x.toNatClampNeg (fun _ => 0)) hW hS1 hP1 hD1 hsz e0 e1 hbz
          exact ih _ _ _ _ _ _ _ _ _ h hl hW1 (vS_tr hS hS1) (by rw [List.length_append, List.length_singleton]; omega) (by rw [szH_app]; show _ = szH σ + x.toNatClampNeg; omega)
        | long =>
          have hfin := wp_gw hCg n _ _ _ _ h
          obtain ⟨v9, σ9, q9, g91, g92⟩ := hfin
          have hb9 := hQ v9 σ9 q9
          rw [List.length_append, List.length_singleton] at g91
          rw [szH_app] at g92
          have hs9 : szH σ + x.toNatClampNeg ≤ szH σ9 := g92
          refine va_newa (atype := .long) hx hb (hts _ (hgt _ (wpl_all.2.2.2.2.2.2.1))) rfl hK.1 hP hD (vS_self hS) (hA hS) (a0 := (x.toNatClampNeg, .inr (.inl (fun _ => 0)))) (fun _ => rfl) h1 rfl (Nat.le_trans (Nat.mul_le_mul_right _ h2) (by decide)) (by omega) (by omega) hd (fun q cA H1 hK1 hP1 hD1 hS1 => ?_)
          have hcA : cA = ar 1 := ar_eq (hK1.2 6 (cA, .long) rfl).2 (hK1.2 1 (ar 1, .long) rfl).2
          subst hcA
          refine W_size fun hsz => ?_
          obtain ⟨rfl, hW1⟩ := WH_make (s := s) (x := aJ x.toNatClampNeg (fun _ => 0)) hW hS1 hP1 hD1 hsz e0 e1 hbz
          exact ih _ _ _ _ _ _ _ _ _ h hl hW1 (vS_tr hS hS1) (by rw [List.length_append, List.length_singleton]; omega) (by rw [szH_app]; show _ = szH σ + x.toNatClampNeg; omega)
        | byte =>
          have hfin := wp_gw hCg n _ _ _ _ h
          obtain ⟨v9, σ9, q9, g91, g92⟩ := hfin
          have hb9 := hQ v9 σ9 q9
          rw [List.length_append, List.length_singleton] at g91
          rw [szH_app] at g92
          have hs9 : szH σ + x.toNatClampNeg ≤ szH σ9 := g92
          refine va_newa (atype := .byte) hx hb (hts _ (hgt _ (wpl_all.2.2.2.2.2.2.2.1))) rfl hK.1 hP hD (vS_self hS) (hA hS) (a0 := (x.toNatClampNeg, .inl (fun _ => 0))) (fun _ => rfl) h1 rfl (Nat.le_trans (Nat.mul_le_mul_right _ h2) (by decide)) (by omega) (by omega) hd (fun q cA H1 hK1 hP1 hD1 hS1 => ?_)
          have hcA : cA = ar 2 := ar_eq (hK1.2 6 (cA, .byte) rfl).2 (hK1.2 2 (ar 2, .byte) rfl).2
          subst hcA
          refine W_size fun hsz => ?_
          obtain ⟨rfl, hW1⟩ := WH_make (s := s) (x := aB x.toNatClampNeg (fun _ => 0)) hW hS1 hP1 hD1 hsz e0 e1 hbz
          exact ih _ _ _ _ _ _ _ _ _ h hl hW1 (vS_tr hS hS1) (by rw [List.length_append, List.length_singleton]; omega) (by rw [szH_app]; show _ = szH σ + x.toNatClampNeg; omega)
        | boolean =>
          have hfin := wp_gw hCg n _ _ _ _ h
          obtain ⟨v9, σ9, q9, g91, g92⟩ := hfin
          have hb9 := hQ v9 σ9 q9
          rw [List.length_append, List.length_singleton] at g91
          rw [szH_app] at g92
          have hs9 : szH σ + x.toNatClampNeg ≤ szH σ9 := g92
          refine va_newa (atype := .boolean) hx hb (hts _ (hgt _ (wpl_all.2.2.2.2.2.2.2.2))) rfl hK.1 hP hD (vS_self hS) (hA hS) (a0 := (x.toNatClampNeg, .inl (fun _ => 0))) (fun _ => rfl) h1 rfl (Nat.le_trans (Nat.mul_le_mul_right _ h2) (by decide)) (by omega) (by omega) hd (fun q cA H1 hK1 hP1 hD1 hS1 => ?_)
          have hcA : cA = ar 3 := ar_eq (hK1.2 6 (cA, .boolean) rfl).2 (hK1.2 3 (ar 3, .boolean) rfl).2
          subst hcA
          refine W_size fun hsz => ?_
          obtain ⟨rfl, hW1⟩ := WH_make (s := s) (x := aZ x.toNatClampNeg (fun _ => 0)) hW hS1 hP1 hD1 hsz e0 e1 hbz
          exact ih _ _ _ _ _ _ _ _ _ h hl hW1 (vS_tr hS hS1) (by rw [List.length_append, List.length_singleton]; omega) (by rw [szH_app]; show _ = szH σ + x.toNatClampNeg; omega)
        | _ => exact h.elim
      · exact h.elim
    | anewarray i =>
      have hn : len = 3 := eq_of_beq hi
      subst hn
      simp only [ins] at h
      split at h
      · rename_i t9 ix x r hk
        obtain ⟨h1, h2, h⟩ := h
        have hfin := wp_gw hCg n _ _ _ _ h
        obtain ⟨v9, σ9, q9, g91, g92⟩ := hfin
        have hb9 := hQ v9 σ9 q9
        rw [List.length_append, List.length_singleton] at g91
        rw [szH_app] at g92
        have hs9 : szH σ + x.toNatClampNeg ≤ szH σ9 := g92
        have hk1 := qres_ok hk
        simp only [okQ, hcN, Bool.and_eq_true, Bool.or_eq_true, decide_eq_true_eq] at hk1
        obtain ⟨ht9, hk2⟩ := hk1
        rcases ht9 with rfl | rfl
        · refine va_newq (C := RX7) hx hb hown (hts _ (hgt _ (wg_in hk2))) hK.2.2.1 hK.1 hP hD (vS_self hS) (hA hS) h1 rfl (by omega) (by omega) (by omega) hd (fun q cA H1 hK1 hP1 hD1 hS1 => ?_)
          have hcA : cA = ar 4 := ar_eq (hK1.2 6 (cA, .object RX7) rfl).2 (hK1.2 4 (ar 4, .object RX7) rfl).2
          subst hcA
          refine W_size fun hsz => ?_
          obtain ⟨rfl, hW1⟩ := WH_make (s := s) (x := aR 4 x.toNatClampNeg (fun _ => none)) hW hS1 hP1 hD1 hsz e0 e1 hbz
          exact ih _ _ _ _ _ _ _ _ _ h hl hW1 (vS_tr hS hS1) (by rw [List.length_append, List.length_singleton]; omega) (by rw [szH_app]; show _ = szH σ + x.toNatClampNeg; omega)
        · refine va_newq (C := RX6) hx hb hown (hts _ (hgt _ (wg_in hk2))) hK.2.2.2.1 hK.1 hP hD (vS_self hS) (hA hS) h1 rfl (by omega) (by omega) (by omega) hd (fun q cA H1 hK1 hP1 hD1 hS1 => ?_)
          have hcA : cA = ar 5 := ar_eq (hK1.2 6 (cA, .object RX6) rfl).2 (hK1.2 5 (ar 5, .object RX6) rfl).2
          subst hcA
          refine W_size fun hsz => ?_
          obtain ⟨rfl, hW1⟩ := WH_make (s := s) (x := aR 5 x.toNatClampNeg (fun _ => none)) hW hS1 hP1 hD1 hsz e0 e1 hbz
          exact ih _ _ _ _ _ _ _ _ _ h hl hW1 (vS_tr hS hS1) (by rw [List.length_append, List.length_singleton]; omega) (by rw [szH_app]; show _ = szH σ + x.toNatClampNeg; omega)
      · exact h.elim
    | new i =>
      have hn : len = 3 := eq_of_beq hi
      subst hn
      simp only [ins] at h
      split at h
      · rename_i ci w9 hk
        obtain ⟨i1, i2, i3⟩ := w9
        have hfin := wp_gw hCg n _ _ _ _ h
        obtain ⟨v9, σ9, q9, g91, g92⟩ := hfin
        have hb9 := hQ v9 σ9 q9
        rw [List.length_append, List.length_singleton] at g91
        rw [szH_app] at g92
        have hk1 := cres_ok hk
        simp only [okC, hcN] at hk1
        split at hk1
        case h_2 => cases hk1
        rename_i o9 r e8 e9
        cases e8
        simp only [Bool.and_eq_true] at hk1
        obtain ⟨⟨w1, w2⟩, w3⟩ := hk1
        have hln := (cl_len e9).1
        have hs9 : szH σ + nF ci ≤ szH σ9 := g92
        have hnf : nF ci = r.2.2 := hln
        refine va_new (ci := ci) (fs := dfl.getD ci []) (C := r.1) (T := r.2.1) (N := r.2.2) hx hb hts (fun w hw => hgt w (cl_lay e9 w hw)) (fun k => (fTy.getD ci []).getD k .int) (fun k hk => (cl_fld e9 hk).1) hown (hts _ (hgt _ (wg_in w1))) (hts _ (hgt _ (wg_in w2))) (hts _ (hgt _ (wg_in w3))) hK.1 hP hD (vS_self hS) (hA hS) e9 (fun k hk => (cl_fld e9 hk).2.2.2) (by omega) (by omega) hd (fun q H1 hP1 hD1 hS1 => ?_)
        refine W_size fun hsz => ?_
        obtain ⟨rfl, hW1⟩ := WH_make (s := s) (x := oB ci (dfl.getD ci [])) hW hS1 hP1 hD1 hsz e0 e1 hbz
        exact ih _ _ _ _ _ _ _ _ _ h hl hW1 (vS_tr hS hS1) (by rw [List.length_append, List.length_singleton]; omega) (by rw [szH_app]; show _ = szH σ + nF ci; omega)
      · exact h.elim
    | ireturn =>
      have hn : len = 1 := eq_of_beq hi
      subst hn
      simp only [ins] at h
      split at h
      · exact hret _ _ _ _ _ _ _ _ _ .ireturn h.2 ⟨_, _, rfl, rfl, h.1, rfl⟩ hd hW hS e1 e2
      · exact h.elim
    | lreturn =>
      have hn : len = 1 := eq_of_beq hi
      subst hn
      simp only [ins] at h
      split at h
      · exact hret _ _ _ _ _ _ _ _ _ .lreturn h ⟨_, rfl, rfl, rfl⟩ hd hW hS e1 e2
      · exact h.elim
    | areturn =>
      have hn : len = 1 := eq_of_beq hi
      subst hn
      simp only [ins] at h
      split at h
      · exact hret _ _ _ _ _ _ _ _ _ .areturn h ⟨_, _, rfl, rfl, Or.inl rfl, rfl⟩ hd hW hS e1 e2
      · exact hret _ _ _ _ _ _ _ _ _ .areturn h ⟨_, _, rfl, rfl, Or.inr ⟨_, rfl⟩, rfl⟩ hd hW hS e1 e2
      · exact h.elim
    | return_ =>
      have hn : len = 1 := eq_of_beq hi
      subst hn
      simp only [ins] at h
      split at h
      · exact hret _ _ _ _ _ _ _ _ _ .return_ h ⟨rfl, rfl, rfl⟩ hd hW hS e1 e2
      · exact h.elim
    | invokevirtual i =>
      have hn : len = 3 := eq_of_beq hi
      subst hn
      simp only [ins] at h
      split at h
      case h_2 => exact h.elim
      rename_i j ix hm0
      split at h
      case h_2 => exact h.elim
      rename_i md hp
      obtain ⟨a, fs, v, σ1, h1, hc, hw, hcal, h⟩ := h
      have hmd := hpg md (List.mem_of_getElem? hp)
      obtain ⟨c1, c2, c3, c4, c5, c6, c7⟩ := md_code hmd
      have hk := mres_ok hm0
      simp only [okK, hcN, hp, Bool.and_eq_true, decide_eq_true_eq] at hk
      have hM := hC _ md _ σ v σ1 hp hcal
      have hg := hCg _ _ _ _ _ hcal
      obtain ⟨g1, g2⟩ := hg
      have hfin := wp_gw hCg n _ _ _ _ h
      obtain ⟨v9, σ9, q9, g91, g92⟩ := hfin
      have hb9 := hQ v9 σ9 q9
      have hRR : (rmD d (σ1.length - σ.length) (szH σ1 - szH σ)).frames + 1 ≤ R.frames ∧ 8 + (md.2.2.1 + 11) + (rmD d (σ1.length - σ.length) (szH σ1 - szH σ)).locals ≤ R.locals := ⟨hRf, by show 8 + (md.2.2.1 + 11) + 38 * d ≤ R.locals; omega⟩
      have hroom : cells + (σ1.length - σ.length) ≤ R.cells ∧ slots + (szH σ1 - szH σ) ≤ R.slots := by omega
      obtain ⟨⟨w1, w2⟩, w3⟩ := hk
      have hge := cel_ge hc (fun _ _ q => by cases q)
      have he := wz_cel (ar := ar) (cel_own hc hge) hge
      obtain ⟨r, hr, -⟩ := hP _ _ he
      have hrc : r.1 = md.1.cls := Option.some.inj ((cl_len hr).2.symm.trans c6)
      obtain ⟨hs1, hs2⟩ := st_cut h1
      have hrv : ∃ cellB : Cell, H[a]? = some cellB ∧ cellB.vm.isStatics = false ∧ s.vm.findClass md.1.cls = some cellB.cls := by
        rw [← hrc]
        exact va_recv hK.1 hP hr he
      exact X_call (va_runV (As := (st.take md.2.2.2.2.1).reverse) (rest := st.drop (md.2.2.2.2.1 + 1)) ⟨hx, hb, hml, hown, hts⟩ hM (cwV md.2.2.2.2.1 hts (C := md.1.cls) (fun w hw9 => by
        simp only [wsV, List.mem_append, List.mem_cons, List.not_mem_nil, or_false] at hw9
        rcases hw9 with (rfl | rfl | rfl | rfl) | hw9
        · exact ⟨hgt _ (wg_in w1), gt_good _ (wg_in w1)⟩
        · exact ⟨hgt _ (wg_in w2), gt_good _ (wg_in w2)⟩
        · exact ⟨hgt _ (wg_in w3), gt_good _ (wg_in w3)⟩
        · exact ⟨hgt _ c2, gt_good _ c2⟩
        · exact wsM_good hgt hmd w hw9) rfl rfl rfl ⟨rfl, c3⟩ hRR) ⟨PX_blind, hrv, fun U hU hw9 => ⟨rfl, by rw [hU]; exact hW, hK.warm hw9⟩⟩ rfl hs2 hl.1 hs1 (lv_room hw) hd hroom) hS (fun H1 locs1 hW1 hS1 => ih _ _ _ _ _ _ _ _ _ h hl hW1 hS1 (by omega) (by omega))
    | invokestatic i =>
      have hn : len = 3 := eq_of_beq hi
      subst hn
      simp only [ins] at h
      split at h
      · rename_i j ix hm0
        split at h
        case h_2 => exact h.elim
        rename_i x dp a sp a0 r
        obtain ⟨hw, h1, h2, h3, h⟩ := h
        have hk := mres_ok hm0
        simp only [okK, hcN] at hk
        split at hk
        case h_2 => cases hk
        rename_i o9 md9 e8 e9
        cases e8
        have hlk := hts _ (hgt _ (wg_in hk))
        have hw8 : (List.map (fun v => v.category) r).sum ≤ 8 := hw
        have hnl : (r.map fun v => v.category).sum + (nativeFrameWords "java/lang/System" "arraycopy" 5 + 11) ≤ R.locals := by
          rw [show nativeFrameWords "java/lang/System" "arraycopy" 5 = 7 by decide +kernel]
          omega
        rcases h with ⟨n0, n1, f, g, hc0, hc, h4, h5, h6, h⟩ | ⟨n0, n1, f, g, hc0, hc, h4, h5, h⟩
        · have hge := cel_ge hc (fun _ _ q => by cases q)
          have hge0 := cel_ge hc0 (fun _ _ q => by cases q)
          exact va_copyi (ty := .byte) hx hb (by rw [hml]; exact hl.1.symm) hown hlk (hts _ (hgt _ wpl_all.2.2.1)) (hts _ (hgt _ wpl_all.2.2.2.1)) (hts _ (hgt _ wpl_all.2.2.2.2.1)) hK.1 hP hD (vS_self hS) (a0 - z) (a - z) 2 2 (wz_cel (cel_own hc0 hge0) hge0) (wz_cel (cel_own hc hge) hge) rfl rfl rfl h1 h2 h3 h4 h5 h6 (by omega) hnl hd (fun H1 locs1 hP1 hD1 hS1 => W_size fun hsz => by
          have hP1 : va_P D vwCl ((wz ar z σ).set (a - z) (a, trE ar (aB n1 (va_cpy f g sp.toNatClampNeg dp.toNatClampNeg x.toNatClampNeg)))) H1 := hP1
          rw [wz_upc _ hge] at hP1
          exact ih _ _ _ _ _ _ _ _ _ h hl (WH_store (s := s) hW hS1 hP1 (upc_len _ _ _ _) hsz e0 e1 hbz) (vS_tr hS hS1) (by rw [upc_len]; exact e1) (e2.trans (Eq.symm (szH_upc (cel_own hc hge) (by rfl)))))
        · have hge := cel_ge hc (fun _ _ q => by cases q)
          have hge0 := cel_ge hc0 (fun _ _ q => by cases q)
          exact va_copyl (ty := .long) hx hb (by rw [hml]; exact hl.1.symm) hown hlk (hts _ (hgt _ wpl_all.2.2.1)) (hts _ (hgt _ wpl_all.2.2.2.1)) (hts _ (hgt _ wpl_all.2.2.2.2.1)) hK.1 hP hD (vS_self hS) (a0 - z) (a - z) 1 1 (wz_cel (cel_own hc0 hge0) hge0) (wz_cel (cel_own hc hge) hge) rfl rfl rfl h1 h2 h3 h4 h5 (fun _ _ => rfl) (by omega) hnl hd (fun H1 locs1 hP1 hD1 hS1 => W_size fun hsz => by
          have hP1 : va_P D vwCl ((wz ar z σ).set (a - z) (a, trE ar (aJ n1 (va_cpy f g sp.toNatClampNeg dp.toNatClampNeg x.toNatClampNeg)))) H1 := hP1
          rw [wz_upc _ hge] at hP1
          exact ih _ _ _ _ _ _ _ _ _ h hl (WH_store (s := s) hW hS1 hP1 (upc_len _ _ _ _) hsz e0 e1 hbz) (vS_tr hS hS1) (by rw [upc_len]; exact e1) (e2.trans (Eq.symm (szH_upc (cel_own hc hge) (by rfl)))))
      · rename_i j ix hm0
        split at h
        case h_2 => exact h.elim
        rename_i y x r
        have hk := mres_ok hm0
        simp only [okK, hcN] at hk
        split at hk
        case h_2 => cases hk
        rename_i o9 md9 e8 e9
        cases e8
        have hw8 : (List.map (fun v => v.category) r).sum ≤ 8 := h.1
        have hfin := wp_gw hCg n _ _ _ _ h.2
        obtain ⟨v9, σ9, q9, g91, g92⟩ := hfin
        have hb9 := hQ v9 σ9 q9
        exact va_mmax hx hb (by rw [hml]; exact hl.1.symm) hown (hts _ (hgt _ (wg_in hk))) (hts _ (hgt _ wpm_all.1)) (hts _ (hgt _ wpm_all.2.2.2.2)) (hts _ (hgt _ wpm_all.2.1)) (by omega) (by omega) (by omega) (by omega) hd (ih _ _ _ _ _ _ _ _ _ h.2 hl hW hS e1 e2)
      · rename_i j ix hm0
        split at h
        case h_2 => exact h.elim
        rename_i y x r
        have hk := mres_ok hm0
        simp only [okK, hcN] at hk
        split at hk
        case h_2 => cases hk
        rename_i o9 md9 e8 e9
        cases e8
        have hw8 : (List.map (fun v => v.category) r).sum ≤ 8 := h.1
        have hfin := wp_gw hCg n _ _ _ _ h.2
        obtain ⟨v9, σ9, q9, g91, g92⟩ := hfin
        have hb9 := hQ v9 σ9 q9
        exact va_mmin hx hb (by rw [hml]; exact hl.1.symm) hown (hts _ (hgt _ (wg_in hk))) (hts _ (hgt _ wpm_all.2.2.1)) (hts _ (hgt _ wpm_all.2.2.2.2)) (hts _ (hgt _ wpm_all.2.2.2.1)) (by omega) (by omega) (by omega) (by omega) hd (ih _ _ _ _ _ _ _ _ _ h.2 hl hW hS e1 e2)
      · rename_i kd j ix hnk7 hnk8 hnk hm0
        obtain ⟨hkd, h⟩ := h
        split at h
        case h_2 => exact h.elim
        rename_i md hp
        obtain ⟨v, σ1, hsl, hw, hcal, h⟩ := h
        rcases hkd with rfl | rfl
        · have hmd := hpg md (List.mem_of_getElem? hp)
          obtain ⟨c1, c2, c3, c4, c5, c6, c7⟩ := md_code hmd
          have hk := mres_ok hm0
          simp only [okK, hcN, hp, Bool.and_eq_true, decide_eq_true_eq] at hk
          have hM := hC _ md _ σ v σ1 hp hcal
          have hg := hCg _ _ _ _ _ hcal
          obtain ⟨g1, g2⟩ := hg
          have hfin := wp_gw hCg n _ _ _ _ h
          obtain ⟨v9, σ9, q9, g91, g92⟩ := hfin
          have hb9 := hQ v9 σ9 q9
          have hRR : (rmD d (σ1.length - σ.length) (szH σ1 - szH σ)).frames + 1 ≤ R.frames ∧ 8 + (md.2.2.1 + 11) + (rmD d (σ1.length - σ.length) (szH σ1 - szH σ)).locals ≤ R.locals := ⟨hRf, by show 8 + (md.2.2.1 + 11) + 38 * d ≤ R.locals; omega⟩
          have hroom : cells + (σ1.length - σ.length) ≤ R.cells ∧ slots + (szH σ1 - szH σ) ≤ R.slots := by omega
          obtain ⟨w1, w2⟩ := hk
          exact X_call (va_runS (As := (st.take md.2.2.2.2.1).reverse) (rest := st.drop md.2.2.2.2.1) ⟨hx, hb, hml, hown, hts⟩ hM (va_cwS md.2.2.2.2.1 hts (fun w hw9 => by
            simp only [va_wsS, List.mem_append, List.mem_cons, List.not_mem_nil, or_false] at hw9
            rcases hw9 with (rfl | rfl | rfl) | hw9
            · exact ⟨hgt _ (wg_in w1), gt_good _ (wg_in w1)⟩
            · exact ⟨hgt _ (wg_in w2), gt_good _ (wg_in w2)⟩
            · exact ⟨hgt _ c2, gt_good _ c2⟩
            · exact wsM_good hgt hmd w hw9) rfl rfl rfl c3 hRR) (PX_S hK hW _) rfl (by rw [List.length_reverse, List.length_take]; omega) hl.1 (by rw [List.reverse_reverse, List.take_append_drop]) (lv_room hw) hd hroom) hS (fun H1 locs1 hW1 hS1 => ih _ _ _ _ _ _ _ _ _ h hl hW1 hS1 (by omega) (by omega))
        · have hmd := hpg md (List.mem_of_getElem? hp)
          obtain ⟨c1, c2, c3, c4, c5, c6, c7⟩ := md_code hmd
          have hk := mres_ok hm0
          simp only [okK, hcN, hp, Bool.and_eq_true, decide_eq_true_eq] at hk
          have hM := hC _ md _ σ v σ1 hp hcal
          have hg := hCg _ _ _ _ _ hcal
          obtain ⟨g1, g2⟩ := hg
          have hfin := wp_gw hCg n _ _ _ _ h
          obtain ⟨v9, σ9, q9, g91, g92⟩ := hfin
          have hb9 := hQ v9 σ9 q9
          have hRR : (rmD d (σ1.length - σ.length) (szH σ1 - szH σ)).frames + 1 ≤ R.frames ∧ 8 + (md.2.2.1 + 11) + (rmD d (σ1.length - σ.length) (szH σ1 - szH σ)).locals ≤ R.locals := ⟨hRf, by show 8 + (md.2.2.1 + 11) + 38 * d ≤ R.locals; omega⟩
          have hroom : cells + (σ1.length - σ.length) ≤ R.cells ∧ slots + (szH σ1 - szH σ) ≤ R.slots := by omega
          obtain ⟨w1, w2⟩ := hk
          exact X_call (va_runSN (As := (st.take md.2.2.2.2.1).reverse) (rest := st.drop md.2.2.2.2.1) ⟨hx, hb, hml, hown, hts⟩ hM ⟨va_cnB md.2.2.2.2.1 hts (wsM_good hgt hmd) rfl rfl rfl (hK.2.1 _ w1) (hts _ (hgt _ c2)) c3 hRR, hts _ (hgt _ (wg_in w2)), trivial⟩ (PX_S hK hW _) rfl (by rw [List.length_reverse, List.length_take]; omega) hl.1 (by rw [List.reverse_reverse, List.take_append_drop]) (lv_room hw) hd hroom) hS (fun H1 locs1 hW1 hS1 => ih _ _ _ _ _ _ _ _ _ h hl hW1 hS1 (by omega) (by omega))
      · exact h.elim
    | invokespecial i =>
      have hn : len = 3 := eq_of_beq hi
      subst hn
      simp only [ins] at h
      split at h
      · rename_i j ix hm0
        split at h
        case h_2 => exact h.elim
        rename_i a r
        have hk := mres_ok hm0
        simp only [okK, hcN] at hk
        split at hk
        case h_2 => cases hk
        rename_i o9 md9 e8 e9
        cases e8
        have hw8 : (List.map (fun v => v.category) r).sum ≤ 8 := h.1
        refine W.objInit hx hb hown (hts _ (hgt _ (wg_in hk))) (hts _ (hgt _ wpl_all.1)) (hts _ (hgt _ wpl_all.2.1)) rfl (by rw [hml]; exact hl.1) rfl hd (by omega) (by show 2 * 0 + _ + 12 ≤ R.locals; omega) ?_
        exact ih _ _ _ _ _ _ _ _ _ h.2 hl hW hS e1 e2
      · rename_i kd j ix hnk hm0
        obtain ⟨hkd, h⟩ := h
        split at h
        case h_2 => exact h.elim
        rename_i md hp
        obtain ⟨a, v, σ1, h1, hw, hcal, h⟩ := h
        obtain ⟨hs1, hs2⟩ := st_cut h1
        rcases hkd with rfl | rfl
        · have hmd := hpg md (List.mem_of_getElem? hp)
          obtain ⟨c1, c2, c3, c4, c5, c6, c7⟩ := md_code hmd
          have hk := mres_ok hm0
          simp only [okK, hcN, hp, Bool.and_eq_true, decide_eq_true_eq] at hk
          have hM := hC _ md _ σ v σ1 hp hcal
          have hg := hCg _ _ _ _ _ hcal
          obtain ⟨g1, g2⟩ := hg
          have hfin := wp_gw hCg n _ _ _ _ h
          obtain ⟨v9, σ9, q9, g91, g92⟩ := hfin
          have hb9 := hQ v9 σ9 q9
          have hRR : (rmD d (σ1.length - σ.length) (szH σ1 - szH σ)).frames + 1 ≤ R.frames ∧ 8 + (md.2.2.1 + 11) + (rmD d (σ1.length - σ.length) (szH σ1 - szH σ)).locals ≤ R.locals := ⟨hRf, by show 8 + (md.2.2.1 + 11) + 38 * d ≤ R.locals; omega⟩
          have hroom : cells + (σ1.length - σ.length) ≤ R.cells ∧ slots + (szH σ1 - szH σ) ≤ R.slots := by omega
          obtain ⟨⟨⟨w1, w2⟩, w3⟩, w4⟩ := hk
          exact X_call (va_runI (As := (st.take md.2.2.2.2.1).reverse) (rest := st.drop (md.2.2.2.2.1 + 1)) ⟨hx, hb, hml, hown, hts⟩ hM (cwI md.2.2.2.2.1 hts (wsM_good hgt hmd) (by rw [wsM, w4]) rfl rfl (hts _ (hgt _ c2)) (hts _ (hgt _ (wg_in w1))) (hts _ (hgt _ (wg_in w2))) w3 c3 hRR) (PX_S hK hW _) rfl hs2 hl.1 hs1 (lv_room hw) hd hroom) hS (fun H1 locs1 hW1 hS1 => ih _ _ _ _ _ _ _ _ _ h hl hW1 hS1 (by omega) (by omega))
        · have hmd := hpg md (List.mem_of_getElem? hp)
          obtain ⟨c1, c2, c3, c4, c5, c6, c7⟩ := md_code hmd
          have hk := mres_ok hm0
          simp only [okK, hcN, hp, Bool.and_eq_true, decide_eq_true_eq] at hk
          have hM := hC _ md _ σ v σ1 hp hcal
          have hg := hCg _ _ _ _ _ hcal
          obtain ⟨g1, g2⟩ := hg
          have hfin := wp_gw hCg n _ _ _ _ h
          obtain ⟨v9, σ9, q9, g91, g92⟩ := hfin
          have hb9 := hQ v9 σ9 q9
          have hRR : (rmD d (σ1.length - σ.length) (szH σ1 - szH σ)).frames + 1 ≤ R.frames ∧ 8 + (md.2.2.1 + 11) + (rmD d (σ1.length - σ.length) (szH σ1 - szH σ)).locals ≤ R.locals := ⟨hRf, by show 8 + (md.2.2.1 + 11) + 38 * d ≤ R.locals; omega⟩
          have hroom : cells + (σ1.length - σ.length) ≤ R.cells ∧ slots + (szH σ1 - szH σ) ≤ R.slots := by omega
          obtain ⟨⟨⟨w1, w2⟩, w3⟩, w4⟩ := hk
          exact X_call (va_runIN (As := (st.take md.2.2.2.2.1).reverse) (rest := st.drop (md.2.2.2.2.1 + 1)) ⟨hx, hb, hml, hown, hts⟩ hM ⟨va_cnB md.2.2.2.2.1 hts (wsM_good hgt hmd) (by rw [wsM, w4]) rfl rfl (hK.2.1 _ w1) (hts _ (hgt _ c2)) c3 hRR, w3, hts _ (hgt _ (wg_in w2))⟩ (PX_S hK hW _) rfl hs2 hl.1 hs1 (lv_room hw) hd hroom) hS (fun H1 locs1 hW1 hS1 => ih _ _ _ _ _ _ _ _ _ h hl hW1 hS1 (by omega) (by omega))
      · exact h.elim
    | _ => exact False.elim h
end
section
/-! ===== every call that the engine finds is the machine's ===== -/
set_option maxHeartbeats 4000000 in
set_option maxRecDepth 100000 in
theorem Cal_Ct {l : Launch} {D : va_G} {ar : Nat → ClassId} {z b L : Nat} {xs : Nat → Int32} {scr : Cell} (hpg : ∀ md ∈ prog, okMD md = true) (hscr : scr.vm ≠ .unknown ∧ scr.slots.size = L ∧ ∀ j : Nat, j < L → scr.slots[j]? = some (.int (xs j))) (hbz : b < z) :
    ∀ (d j : Nat) (md : MD) (av : List Value) (σ : Hp) (v : Option Value) (σ1 : Hp), prog[j]? = some md → Cal z b L xs d j av σ v σ1 → Ct l D ar z b scr d md av σ v σ1
  | 0, _, _, _, _, _, _, _, h => h.elim
  | d + 1, j, md, av, σ, v, σ1, hp, h => by
    have hg := Cal_gw (d + 1) j av σ v σ1 h
    obtain ⟨hg1, hg2⟩ := hg
    simp only [Cal, hp] at h
    obtain ⟨hln, n, h⟩ := h
    have hmd := hpg md (List.mem_of_getElem? hp)
    obtain ⟨c1, c2, c3, c4, c5, c6, c7⟩ := md_code hmd
    refine Met.ofW (cc := md.2.1) (maxL := md.2.2.1) (ret := md.2.2.2.1) (ws' := gt) c5 rfl ?_
    intro p e s m args below meth c s₁ B hml hv
    obtain ⟨rfl, hW, hK⟩ := hv
    have hts := atoms_spec (ws := wsM md) B.pre
    have hown : s.vm.findClass md.1.cls = some m.cls := findClass_of_methodNamed B.named
    have hlocks := B.notSynchronized
    have hr := B.returns
    have hx := B.exec
    have hb := B.bytes
    rw [lg_entry_eq]
    have hl := lv_entry av hln
    refine snd (d := d) (Ts := wsM md) (ini := decide (md.1.name = "<init>")) (σ0 := σ) (Qr := fun v' σ' => v' = v ∧ σ' = σ1) hpg ⟨hx, hb, hml, ⟨_, c6, hown⟩, hts, fun w hw => List.mem_cons_of_mem _ hw, hK, fun q => (name_of_methodNamed B.named B.method).1.trans (of_decide_eq_true q), hscr, hbz, hW.2.1, hW.2.2⟩ c7 (fun j md av σ v σ1 hp h => Cal_Ct hpg hscr hbz d j md av σ v σ1 hp h) (Cal_gw d) (Nat.le_refl _) (by show 38 * d + 38 ≤ 38 * (d + 1); omega) ?_ ?_ n 0 _ [] σ s.heap [] 0 0 _ h hl hW va_S.rf rfl rfl
    · rintro v' σ' ⟨rfl, rfl⟩
      show _ ≤ _ + (_ - _) ∧ _ ≤ _ + (_ - _)
      omega
    · rintro v' σ' H locs cells slots pc ls st i ⟨rfl, rfl⟩ hi hd hW1 hS e1 e2
      obtain rfl : cells = σ'.length - σ.length := by omega
      obtain rfl : slots = szH σ' - szH σ := by omega
      cases i with
      | ireturn =>
        obtain ⟨x, ty, rfl, hrt, hf, rfl⟩ := hi
        exact W.zret (ty := ty) hx hb (hr.trans hrt) (fitV_ok hf).1 (fun t ht hw => ⟨⟨rfl, by rw [ht]; exact hW1⟩, hS.F ht⟩) hS.2.2 hd
      | lreturn =>
        obtain ⟨x, rfl, hrt, rfl⟩ := hi
        exact W.lret hx hb (hr.trans hrt) (fun t ht hw => ⟨⟨rfl, by rw [ht]; exact hW1⟩, hS.F ht⟩) hS.2.2 hd
      | areturn =>
        obtain ⟨w, n', rfl, hrt, hw, rfl⟩ := hi
        exact W.aret hx hb (hr.trans hrt) (Or.inl ⟨_, rfl⟩) hw (fun t ht hw => ⟨⟨rfl, by rw [ht]; exact hW1⟩, hS.F ht⟩) hS.2.2 hd
      | return_ =>
        obtain ⟨rfl, hrt, rfl⟩ := hi
        exact W.vret hx hb (hr.trans hrt) (fun t ht hw => ⟨⟨rfl, by rw [ht]; exact hW1⟩, hS.F ht⟩) hS.2.2 hd
      | _ => exact False.elim hi
end
section
-- ===== end of PART A; then your names; then what follows =====
/-! THE CLAIM OUT OF ONE WALK OF THE LAW'S BODY. Your part is whole_start (and what it stands on); all else here is the same for every law, but numbers. -/
def R_law : String := "ProtoMachineLaw"
def lw_P (b : Addr) (xs : List Int32) (args : Array Value) (s : State) : Prop := args = #[.ref b] ∧ s.IntsAt b xs ∧ xs.length ≤ 2050 ∧ (Jvm.Cond.and given_1 narrow_1).before args s = true
def lw_Q (_ : Array Value) (s : State) (o : Outcome) (t : State) : Prop := o = .returned (some (.int 1)) ∧ Framed s o t [] 600000 7302250
def lw_Z (below : List Frame) (a : Array Value) (s : State) : State → Prop := fun t => ∃ o, t.status = .running ∧ Ended t below o ∧ lw_Q a s o t
/-- the law's own end, with 1 on the stack, nothing written that was there before, its room as the claim has it -/
theorem lw_ret {p : Program} {l : Launch} {e : Env} {s : State} {m : MethodId} {below : List Frame} {meth : Method} {c : Code} {b : Nat} (hx : p.tables.exec = Jvm.exec) (hb : c.code = code) (hr : meth.sig.returnType = ret) (hlocks : meth.locks = false) {pc : Nat} {H : Heap} {ls : Array Slot} (hdg : decode code pc = .ok (.ireturn, 1)) : W p l e room_1 s m #[Value.ref b] below meth c H [] 600000 7302250 (lw_Z below #[Value.ref b] s) (F0 m pc ls [.int 1]) := by
  intro T hT X
  obtain ⟨fs, hret, hrun, hended, hW, hframe⟩ := X.leave (v := some (.int 1)) (hlocks := hlocks) (fun h => by rw [hr] at h; cases h)
  have hmeth' : T.vm.method? m = some meth := X.method'
  refine ⟨T.setFrames fs, ?_, .returned (some (.int 1)), hrun, hended, rfl, ⟨_, rfl⟩, hW, hframe⟩
  jvm_step X.here [X.here.top, hx, hb, hdg, hmeth', hr, ret, narrow_b1]
  (try refine ⟨rfl, ?_⟩); (try refine ⟨rfl, ?_⟩)
  first | (intro acts; rw [hret _ acts rfl rfl rfl]) | rw [hret _ _ rfl rfl rfl]
  exact Steps.refl _
/-- what holds at the law's entry: the machine, the code, the tables' words (any of lw_tbl by 'hts w (by decide +kernel)'), the script of L ints xs at the cell b, what the Statement gives of the start (any of its parts by flat_of_before) -/
def lw_At (p : Program) (s : State) (m : MethodId) (meth : Method) (c : Code) (b L : Nat) (xs : Nat → Int32) : Prop :=
  p.tables.exec = Jvm.exec ∧ c.code = code ∧ meth.sig.returnType = ret ∧ c.maxLocals = 4 ∧ s.vm.findClass R_law = some m.cls ∧ (∀ w ∈ lw_tbl, w.before #[Value.ref b] s = true) ∧ va_X b L xs s s.heap ∧ b < s.heap.size ∧ meth.locks = false ∧ (Jvm.Cond.and given_1 narrow_1).before #[Value.ref b] s = true

theorem inst_all (k : Nat) (r : vw_C) (h : vwCl[k]? = some r) : ∃ n, Cond.instantiable r.1 n ∈ lw_tbl := by
  match k, h with
  | 0, h => cases h; exact ⟨5, List.mem_of_getElem? (i := 119) (by decide +kernel)⟩
  | 1, h => cases h; exact ⟨6, List.mem_of_getElem? (i := 178) (by decide +kernel)⟩
  | 2, h => cases h; exact ⟨15, List.mem_of_getElem? (i := 239) (by decide +kernel)⟩
  | 3, h => cases h; exact ⟨5, List.mem_of_getElem? (i := 782) (by decide +kernel)⟩
  | 4, h => cases h; exact ⟨2, List.mem_of_getElem? (i := 309) (by decide +kernel)⟩
  | 5, h => cases h; exact ⟨7, List.mem_of_getElem? (i := 170) (by decide +kernel)⟩
  | 6, h => cases h; exact ⟨11, List.mem_of_getElem? (i := 693) (by decide +kernel)⟩
  | 7, h => cases h; exact ⟨4, List.mem_of_getElem? (i := 126) (by decide +kernel)⟩
  | 8, h => cases h; exact ⟨11, List.mem_of_getElem? (i := 111) (by decide +kernel)⟩
  | 9, h => cases h; exact ⟨54, List.mem_of_getElem? (i := 949) (by decide +kernel)⟩
  | k + 10, h => simp [vwCl] at h
theorem arrCl {s : State} {args : Array Value} {ty : FieldType} (h : (Cond.arrayClass ty).before args s = true) : ∃ (cA : ClassId) (kA : Class) (comp : ClassId), s.vm.findClass ("[" ++ ty.toString) = some cA ∧ s.vm.classes[cA]? = some kA ∧ kA.kind = .array comp ty := by
  obtain ⟨cA, kA, comp, h1, h2, h3⟩ := Cond.arrayClass_spec h
  exact ⟨cA, kA, comp, h1, h2, h3⟩

/-- the tables' facts at the law's start -/
theorem ks_start {s : State} {args : Array Value} {scr : Cell} (hts : ∀ w ∈ lw_tbl, w.before args s = true) (hscr : s.isArrayOf scr .int) : ∃ (D : va_G) (ar : Nat → ClassId), KS D ar scr s := by
  have hg : ∀ w ∈ gt, w.before args s = true := fun w h => hts w (List.mem_filter.mp h).1
  have hcl : ∀ k : Nat, ∃ q : ClassId × (Nat → Nat), ∀ r : vw_C, vwCl[k]? = some r → u_Kn s r.1 r.2.1 r.2.2 q.1 q.2 := by
    intro k
    cases hk : vwCl[k]? with
    | none => exact ⟨(0, fun _ => 0), fun r h => by cases h⟩
    | some r =>
      obtain ⟨n, hn⟩ := inst_all k r hk
      obtain ⟨cC, iS, h⟩ := u_known (C := r.1) (T := r.2.1) (N := r.2.2) (n := n) hts (fun w hw => (List.mem_filter.mp (cl_lay hk w hw)).1) (hts _ hn)
      exact ⟨(cC, iS), fun r' h' => by cases h'; exact h⟩
  have hov := over_ok
  simp only [Bool.and_eq_true, decide_eq_true_eq] at hov
  have o1 : (Cond.arrayOver (.object RX7)).before args s = true := hts _ (List.mem_of_getElem? hov.1)
  have o2 : (Cond.arrayOver (.object RX6)).before args s = true := hts _ (List.mem_of_getElem? hov.2)
  have hp : ∀ ty : FieldType, Cond.arrayClass ty ∈ gt → (∀ C, ty ≠ .object C) → ∃ cA : ClassId, ArrOfT s cA ty ∧ va_RA s cA ty := by
    intro ty h hne
    obtain ⟨cA, kA, comp, h1, h2, h3⟩ := arrCl (hg _ h)
    refine ⟨cA, fun n z => ⟨fun k h => (by cases h), kA, h2, comp, h3⟩, ?_⟩
    cases ty with
    | object C => exact absurd rfl (hne C)
    | _ => exact h1
  have hq : ∀ C : String, (Cond.arrayOver (.object C)).before args s = true → ∃ cA : ClassId, ArrOfT s cA (.object C) ∧ va_RA s cA (.object C) := by
    intro C h
    obtain ⟨comp, cA, kA, h1, h2, h3, h4, h5⟩ := Cond.arrayOver_spec h
    exact ⟨cA, fun n z => ⟨fun k h => (by cases h), kA, h3, comp, h4⟩, kA, comp, h3, h4, h1, h5⟩
  obtain ⟨a0, p0⟩ := hp .int wpl_all.2.2.2.2.2.1 (fun _ q => by cases q)
  obtain ⟨a1, p1⟩ := hp .long wpl_all.2.2.2.2.2.2.1 (fun _ q => by cases q)
  obtain ⟨a2, p2⟩ := hp .byte wpl_all.2.2.2.2.2.2.2.1 (fun _ q => by cases q)
  obtain ⟨a3, p3⟩ := hp .boolean wpl_all.2.2.2.2.2.2.2.2 (fun _ q => by cases q)
  obtain ⟨a4, p4⟩ := hq RX7 o1
  obtain ⟨a5, p5⟩ := hq RX6 o2
  refine ⟨(fun k => (Classical.choose (hcl k)).1, fun k => (Classical.choose (hcl k)).2), fun k => match k with
    | 0 => a0
    | 1 => a1
    | 2 => a2
    | 3 => a3
    | 4 => a4
    | _ => a5, ⟨fun k r hk => Classical.choose_spec (hcl k) r hk, fun k q hk => ?_⟩, fun q hq => ?_, o1, o2, hscr⟩
  · match k, hk with
    | 0, hk => cases hk; exact p0
    | 1, hk => cases hk; exact p1
    | 2, hk => cases hk; exact p2
    | 3, hk => cases hk; exact p3
    | 4, hk => cases hk; exact p4
    | 5, hk => cases hk; exact p5
    | k + 6, hk => simp [tyL] at hk
  · have h1 := List.all_eq_true.mp nest_ok q hq
    have h2 := hts _ (List.mem_of_getElem? (of_decide_eq_true h1))
    obtain ⟨a, i, x, hh, e⟩ := nest_form q hq
    rw [e] at h2 ⊢
    exact va_Nw.of rfl h2
/-- what is left of the claim: the engine's walk of the law -/
def LawOk : Prop := ∀ (z b L : Nat) (xs : Nat → Int32), b < z → L ≤ 2050 → ∃ n, wp z b L xs (Cal z b L xs 9) t_L_law 10 (some .boolean) (fun v σ => v = some (.int 1) ∧ σ.length ≤ 600000 ∧ szH σ ≤ 7302250) n 0 [(0, .ref b)] [] []
set_option maxHeartbeats 4000000 in
set_option maxRecDepth 100000 in
theorem whole_of (hpg : ∀ md ∈ prog, okMD md = true) (hlw : okT code 4 10 false t_L_law = true) (hlaw : LawOk) {p : Program} {e : Env} {s : State} {m : MethodId} {below : List Frame} {meth : Method} {c : Code} (l : Launch) {b L : Nat} {xs : Nat → Int32} (hL : L ≤ 2050) (C0 : lw_At p s m meth c b L xs) : W p l e room_1 s m #[Value.ref b] below meth c s.heap [] 0 0 (lw_Z below #[Value.ref b] s) (entryFrame m ([Value.ref b] : List Value).toArray 4) := by
  obtain ⟨hx, hb, hr, hml, hown, hts, hX, hbl, hlocks, hgv⟩ := id C0
  obtain ⟨scr, k1, k2, k3, k4, k5⟩ := hX
  obtain ⟨D, ar, hK⟩ := ks_start hts k2
  obtain ⟨n, h⟩ := hlaw s.heap.size b L xs hbl hL
  rw [lg_entry_eq]
  have hl := lv_entry ([.ref b]) (n := 4) (Nat.le_of_ble_eq_true rfl)
  have hl : lv_has ((lg_sl ([.ref b]) ++ List.replicate (4 - (lg_sl ([.ref b])).length) Slot.unset).toArray) 4 [(0, .ref b)] := hl
  have hW : WH D ar s.heap.size b scr [] s.heap := ⟨fun k q h => by simp [wz] at h, rfl, k1⟩
  refine snd (d := 9) (Ts := lw_tbl) (ini := false) (σ0 := []) (Qr := fun v σ => v = some (.int 1) ∧ σ.length ≤ 600000 ∧ szH σ ≤ 7302250) hpg ⟨hx, hb, hml, ⟨RL, rfl, hown⟩, hts, fun w hw => (List.mem_filter.mp hw).1, hK, (fun q => by cases q), ⟨k3, k4, k5⟩, hbl, rfl, k1⟩ hlw (fun j md av σ v σ1 hp h => Cal_Ct hpg ⟨k3, k4, k5⟩ hbl 9 j md av σ v σ1 hp h) (Cal_gw 9) (Nat.le_of_ble_eq_true rfl) (Nat.le_of_ble_eq_true rfl) ?_ ?_ n 0 _ [] [] s.heap [] 0 0 _ h hl hW va_S.rf rfl rfl
  · rintro v σ1 ⟨-, h1, h2⟩
    exact ⟨by show _ ≤ 0 + 600000; omega, by show _ ≤ 0 + 7302250; omega⟩
  · rintro v σ1 H locs cells slots pc ls st i ⟨rfl, h1, h2⟩ hi hd hW1 hS e1 e2
    have e1' : 0 + cells = σ1.length := e1
    have e2' : 0 + slots = szH σ1 := e2
    refine va_forget (fun q hq => hS.2.2 q hq) ?_
    refine W.widen (k := 600000) (n := 7302250) (by omega) (by omega) ?_
    cases i with
    | ireturn =>
      obtain ⟨x, ty, rfl, -, -, hx1⟩ := hi
      cases hx1
      exact lw_ret hx hb hr hlocks hd
    | lreturn =>
      obtain ⟨x, rfl, -, hx1⟩ := hi
      cases hx1
    | areturn =>
      obtain ⟨w, n', rfl, -, hw, hx1⟩ := hi
      cases hx1
      rcases hw with hw | ⟨a, hw⟩ <;> cases hw
    | return_ =>
      obtain ⟨rfl, -, hx1⟩ := hi
      cases hx1
    | _ => exact False.elim hi
end
section
set_option maxRecDepth 100000 in
theorem kt_X0_init : okT cX0_init 1 0 true t_X0_init = true := by decide +kernel
set_option maxRecDepth 100000 in
theorem k0_X0_init : okM0 md_X0_init = true := by decide +kernel
theorem ok_X0_init : okMD md_X0_init = true := okMD_of k0_X0_init kt_X0_init
set_option maxRecDepth 100000 in
theorem kt_X0_add_0 : okT cX0_add 5 0 false (t_X0_add.take 20) = true := by decide +kernel
set_option maxRecDepth 100000 in
theorem kt_X0_add_1 : okT cX0_add 5 0 false ((t_X0_add.drop 20).take 20) = true := by decide +kernel
set_option maxRecDepth 100000 in
theorem kt_X0_add_2 : okT cX0_add 5 0 false ((t_X0_add.drop 20).drop 20) = true := by decide +kernel
theorem kt_X0_add : okT cX0_add 5 0 false t_X0_add = true := okT_cut 20 kt_X0_add_0 (okT_cut 20 kt_X0_add_1 (kt_X0_add_2))
set_option maxRecDepth 100000 in
theorem k0_X0_add : okM0 md_X0_add = true := by decide +kernel
theorem ok_X0_add : okMD md_X0_add = true := okMD_of k0_X0_add kt_X0_add
set_option maxRecDepth 100000 in
theorem kt_X0_wordAt : okT cX0_wordAt 2 0 false t_X0_wordAt = true := by decide +kernel
set_option maxRecDepth 100000 in
theorem k0_X0_wordAt : okM0 md_X0_wordAt = true := by decide +kernel
theorem ok_X0_wordAt : okMD md_X0_wordAt = true := okMD_of k0_X0_wordAt kt_X0_wordAt
set_option maxRecDepth 100000 in
theorem kt_X0_placeOf : okT cX0_placeOf 2 0 false t_X0_placeOf = true := by decide +kernel
set_option maxRecDepth 100000 in
theorem k0_X0_placeOf : okM0 md_X0_placeOf = true := by decide +kernel
theorem ok_X0_placeOf : okMD md_X0_placeOf = true := okMD_of k0_X0_placeOf kt_X0_placeOf
set_option maxRecDepth 100000 in
theorem kt_X0_forgetAll : okT cX0_forgetAll 2 0 false t_X0_forgetAll = true := by decide +kernel
set_option maxRecDepth 100000 in
theorem k0_X0_forgetAll : okM0 md_X0_forgetAll = true := by decide +kernel
theorem ok_X0_forgetAll : okMD md_X0_forgetAll = true := okMD_of k0_X0_forgetAll kt_X0_forgetAll
set_option maxRecDepth 100000 in
theorem kt_X0_firstFault_0 : okT cX0_firstFault 2 0 false (t_X0_firstFault.take 20) = true := by decide +kernel
set_option maxRecDepth 100000 in
theorem kt_X0_firstFault_1 : okT cX0_firstFault 2 0 false (t_X0_firstFault.drop 20) = true := by decide +kernel
theorem kt_X0_firstFault : okT cX0_firstFault 2 0 false t_X0_firstFault = true := okT_cut 20 kt_X0_firstFault_0 (kt_X0_firstFault_1)
set_option maxRecDepth 100000 in
theorem k0_X0_firstFault : okM0 md_X0_firstFault = true := by decide +kernel
theorem ok_X0_firstFault : okMD md_X0_firstFault = true := okMD_of k0_X0_firstFault kt_X0_firstFault
set_option maxRecDepth 100000 in
theorem kt_X0_layLabels_0 : okT cX0_layLabels 3 0 false (t_X0_layLabels.take 20) = true := by decide +kernel
set_option maxRecDepth 100000 in
theorem kt_X0_layLabels_1 : okT cX0_layLabels 3 0 false (t_X0_layLabels.drop 20) = true := by decide +kernel
theorem kt_X0_layLabels : okT cX0_layLabels 3 0 false t_X0_layLabels = true := okT_cut 20 kt_X0_layLabels_0 (kt_X0_layLabels_1)
set_option maxRecDepth 100000 in
theorem k0_X0_layLabels : okM0 md_X0_layLabels = true := by decide +kernel
theorem ok_X0_layLabels : okMD md_X0_layLabels = true := okMD_of k0_X0_layLabels kt_X0_layLabels
set_option maxRecDepth 100000 in
theorem kt_X0_faultOf_0 : okT cX0_faultOf 3 0 false (t_X0_faultOf.take 20) = true := by decide +kernel
set_option maxRecDepth 100000 in
theorem kt_X0_faultOf_1 : okT cX0_faultOf 3 0 false (t_X0_faultOf.drop 20) = true := by decide +kernel
theorem kt_X0_faultOf : okT cX0_faultOf 3 0 false t_X0_faultOf = true := okT_cut 20 kt_X0_faultOf_0 (kt_X0_faultOf_1)
set_option maxRecDepth 100000 in
theorem k0_X0_faultOf : okM0 md_X0_faultOf = true := by decide +kernel
theorem ok_X0_faultOf : okMD md_X0_faultOf = true := okMD_of k0_X0_faultOf kt_X0_faultOf
set_option maxRecDepth 100000 in
theorem kt_X1_init : okT cX1_init 2 1 true t_X1_init = true := by decide +kernel
set_option maxRecDepth 100000 in
theorem k0_X1_init : okM0 md_X1_init = true := by decide +kernel
theorem ok_X1_init : okMD md_X1_init = true := okMD_of k0_X1_init kt_X1_init
set_option maxRecDepth 100000 in
theorem kt_X1_begin : okT cX1_begin 4 1 false t_X1_begin = true := by decide +kernel
set_option maxRecDepth 100000 in
theorem k0_X1_begin : okM0 md_X1_begin = true := by decide +kernel
theorem ok_X1_begin : okMD md_X1_begin = true := okMD_of k0_X1_begin kt_X1_begin
set_option maxRecDepth 100000 in
theorem kt_X1_hasLocal : okT cX1_hasLocal 2 1 false t_X1_hasLocal = true := by decide +kernel
set_option maxRecDepth 100000 in
theorem k0_X1_hasLocal : okM0 md_X1_hasLocal = true := by decide +kernel
theorem ok_X1_hasLocal : okMD md_X1_hasLocal = true := okMD_of k0_X1_hasLocal kt_X1_hasLocal
set_option maxRecDepth 100000 in
theorem kt_X1_valueAt : okT cX1_valueAt 2 1 false t_X1_valueAt = true := by decide +kernel
set_option maxRecDepth 100000 in
theorem k0_X1_valueAt : okM0 md_X1_valueAt = true := by decide +kernel
theorem ok_X1_valueAt : okMD md_X1_valueAt = true := okMD_of k0_X1_valueAt kt_X1_valueAt
set_option maxRecDepth 100000 in
theorem kt_X1_put : okT cX1_put 4 1 false t_X1_put = true := by decide +kernel
set_option maxRecDepth 100000 in
theorem k0_X1_put : okM0 md_X1_put = true := by decide +kernel
theorem ok_X1_put : okMD md_X1_put = true := okMD_of k0_X1_put kt_X1_put
set_option maxRecDepth 100000 in
theorem kt_X2_init_0 : okT cX2_init 4 2 true (t_X2_init.take 20) = true := by decide +kernel
set_option maxRecDepth 100000 in
theorem kt_X2_init_1 : okT cX2_init 4 2 true (t_X2_init.drop 20) = true := by decide +kernel
theorem kt_X2_init : okT cX2_init 4 2 true t_X2_init = true := okT_cut 20 kt_X2_init_0 (kt_X2_init_1)
set_option maxRecDepth 100000 in
theorem k0_X2_init : okM0 md_X2_init = true := by decide +kernel
theorem ok_X2_init : okMD md_X2_init = true := okMD_of k0_X2_init kt_X2_init
set_option maxRecDepth 100000 in
theorem kt_X2_clear_0 : okT cX2_clear 1 2 false (t_X2_clear.take 20) = true := by decide +kernel
set_option maxRecDepth 100000 in
theorem kt_X2_clear_1 : okT cX2_clear 1 2 false (t_X2_clear.drop 20) = true := by decide +kernel
theorem kt_X2_clear : okT cX2_clear 1 2 false t_X2_clear = true := okT_cut 20 kt_X2_clear_0 (kt_X2_clear_1)
set_option maxRecDepth 100000 in
theorem k0_X2_clear : okM0 md_X2_clear = true := by decide +kernel
theorem ok_X2_clear : okMD md_X2_clear = true := okMD_of k0_X2_clear kt_X2_clear
set_option maxRecDepth 100000 in
theorem kt_X2_thingOf_0 : okT cX2_thingOf 4 2 false (t_X2_thingOf.take 20) = true := by decide +kernel
set_option maxRecDepth 100000 in
theorem kt_X2_thingOf_1 : okT cX2_thingOf 4 2 false (t_X2_thingOf.drop 20) = true := by decide +kernel
theorem kt_X2_thingOf : okT cX2_thingOf 4 2 false t_X2_thingOf = true := okT_cut 20 kt_X2_thingOf_0 (kt_X2_thingOf_1)
set_option maxRecDepth 100000 in
theorem k0_X2_thingOf : okM0 md_X2_thingOf = true := by decide +kernel
theorem ok_X2_thingOf : okMD md_X2_thingOf = true := okMD_of k0_X2_thingOf kt_X2_thingOf
set_option maxRecDepth 100000 in
theorem kt_X2_outward : okT cX2_outward 4 2 false t_X2_outward = true := by decide +kernel
set_option maxRecDepth 100000 in
theorem k0_X2_outward : okM0 md_X2_outward = true := by decide +kernel
theorem ok_X2_outward : okMD md_X2_outward = true := okMD_of k0_X2_outward kt_X2_outward
set_option maxRecDepth 100000 in
theorem kt_X2_withSerial_0 : okT cX2_withSerial 4 2 false (t_X2_withSerial.take 20) = true := by decide +kernel
set_option maxRecDepth 100000 in
theorem kt_X2_withSerial_1 : okT cX2_withSerial 4 2 false (t_X2_withSerial.drop 20) = true := by decide +kernel
theorem kt_X2_withSerial : okT cX2_withSerial 4 2 false t_X2_withSerial = true := okT_cut 20 kt_X2_withSerial_0 (kt_X2_withSerial_1)
set_option maxRecDepth 100000 in
theorem k0_X2_withSerial : okM0 md_X2_withSerial = true := by decide +kernel
theorem ok_X2_withSerial : okMD md_X2_withSerial = true := okMD_of k0_X2_withSerial kt_X2_withSerial
set_option maxRecDepth 100000 in
theorem kt_X2_make_0 : okT cX2_make 3 2 false (t_X2_make.take 20) = true := by decide +kernel
set_option maxRecDepth 100000 in
theorem kt_X2_make_1 : okT cX2_make 3 2 false ((t_X2_make.drop 20).take 20) = true := by decide +kernel
set_option maxRecDepth 100000 in
theorem kt_X2_make_2 : okT cX2_make 3 2 false ((t_X2_make.drop 20).drop 20) = true := by decide +kernel
theorem kt_X2_make : okT cX2_make 3 2 false t_X2_make = true := okT_cut 20 kt_X2_make_0 (okT_cut 20 kt_X2_make_1 (kt_X2_make_2))
set_option maxRecDepth 100000 in
theorem k0_X2_make : okM0 md_X2_make = true := by decide +kernel
theorem ok_X2_make : okMD md_X2_make = true := okMD_of k0_X2_make kt_X2_make
set_option maxRecDepth 100000 in
theorem kt_X2_addSlot_0 : okT cX2_addSlot 5 2 false (t_X2_addSlot.take 20) = true := by decide +kernel
set_option maxRecDepth 100000 in
theorem kt_X2_addSlot_1 : okT cX2_addSlot 5 2 false (t_X2_addSlot.drop 20) = true := by decide +kernel
theorem kt_X2_addSlot : okT cX2_addSlot 5 2 false t_X2_addSlot = true := okT_cut 20 kt_X2_addSlot_0 (kt_X2_addSlot_1)
set_option maxRecDepth 100000 in
theorem k0_X2_addSlot : okM0 md_X2_addSlot = true := by decide +kernel
theorem ok_X2_addSlot : okMD md_X2_addSlot = true := okMD_of k0_X2_addSlot kt_X2_addSlot
set_option maxRecDepth 100000 in
theorem kt_X2_removeSlot_0 : okT cX2_removeSlot 4 2 false (t_X2_removeSlot.take 20) = true := by decide +kernel
set_option maxRecDepth 100000 in
theorem kt_X2_removeSlot_1 : okT cX2_removeSlot 4 2 false ((t_X2_removeSlot.drop 20).take 20) = true := by decide +kernel
set_option maxRecDepth 100000 in
theorem kt_X2_removeSlot_2 : okT cX2_removeSlot 4 2 false ((t_X2_removeSlot.drop 20).drop 20) = true := by decide +kernel
theorem kt_X2_removeSlot : okT cX2_removeSlot 4 2 false t_X2_removeSlot = true := okT_cut 20 kt_X2_removeSlot_0 (okT_cut 20 kt_X2_removeSlot_1 (kt_X2_removeSlot_2))
set_option maxRecDepth 100000 in
theorem k0_X2_removeSlot : okM0 md_X2_removeSlot = true := by decide +kernel
theorem ok_X2_removeSlot : okMD md_X2_removeSlot = true := okMD_of k0_X2_removeSlot kt_X2_removeSlot
set_option maxRecDepth 100000 in
theorem kt_X2_hasRoomToMake_0 : okT cX2_hasRoomToMake 2 2 false (t_X2_hasRoomToMake.take 20) = true := by decide +kernel
set_option maxRecDepth 100000 in
theorem kt_X2_hasRoomToMake_1 : okT cX2_hasRoomToMake 2 2 false (t_X2_hasRoomToMake.drop 20) = true := by decide +kernel
theorem kt_X2_hasRoomToMake : okT cX2_hasRoomToMake 2 2 false t_X2_hasRoomToMake = true := okT_cut 20 kt_X2_hasRoomToMake_0 (kt_X2_hasRoomToMake_1)
set_option maxRecDepth 100000 in
theorem k0_X2_hasRoomToMake : okM0 md_X2_hasRoomToMake = true := by decide +kernel
theorem ok_X2_hasRoomToMake : okMD md_X2_hasRoomToMake = true := okMD_of k0_X2_hasRoomToMake kt_X2_hasRoomToMake
set_option maxRecDepth 100000 in
theorem kt_X2_hasRoomForSlot_0 : okT cX2_hasRoomForSlot 2 2 false (t_X2_hasRoomForSlot.take 20) = true := by decide +kernel
set_option maxRecDepth 100000 in
theorem kt_X2_hasRoomForSlot_1 : okT cX2_hasRoomForSlot 2 2 false (t_X2_hasRoomForSlot.drop 20) = true := by decide +kernel
theorem kt_X2_hasRoomForSlot : okT cX2_hasRoomForSlot 2 2 false t_X2_hasRoomForSlot = true := okT_cut 20 kt_X2_hasRoomForSlot_0 (kt_X2_hasRoomForSlot_1)
set_option maxRecDepth 100000 in
theorem k0_X2_hasRoomForSlot : okM0 md_X2_hasRoomForSlot = true := by decide +kernel
theorem ok_X2_hasRoomForSlot : okMD md_X2_hasRoomForSlot = true := okMD_of k0_X2_hasRoomForSlot kt_X2_hasRoomForSlot
set_option maxRecDepth 100000 in
theorem kt_X2_minor_0 : okT cX2_minor 4 2 false (t_X2_minor.take 20) = true := by decide +kernel
set_option maxRecDepth 100000 in
theorem kt_X2_minor_1 : okT cX2_minor 4 2 false ((t_X2_minor.drop 20).take 20) = true := by decide +kernel
set_option maxRecDepth 100000 in
theorem kt_X2_minor_2 : okT cX2_minor 4 2 false ((t_X2_minor.drop 20).drop 20) = true := by decide +kernel
theorem kt_X2_minor : okT cX2_minor 4 2 false t_X2_minor = true := okT_cut 20 kt_X2_minor_0 (okT_cut 20 kt_X2_minor_1 (kt_X2_minor_2))
set_option maxRecDepth 100000 in
theorem k0_X2_minor : okM0 md_X2_minor = true := by decide +kernel
theorem ok_X2_minor : okMD md_X2_minor = true := okMD_of k0_X2_minor kt_X2_minor
set_option maxRecDepth 100000 in
theorem kt_X2_major : okT cX2_major 1 2 false t_X2_major = true := by decide +kernel
set_option maxRecDepth 100000 in
theorem k0_X2_major : okM0 md_X2_major = true := by decide +kernel
theorem ok_X2_major : okMD md_X2_major = true := okMD_of k0_X2_major kt_X2_major
set_option maxRecDepth 100000 in
theorem kt_X2_youngLeft : okT cX2_youngLeft 1 2 false t_X2_youngLeft = true := by decide +kernel
set_option maxRecDepth 100000 in
theorem k0_X2_youngLeft : okM0 md_X2_youngLeft = true := by decide +kernel
theorem ok_X2_youngLeft : okMD md_X2_youngLeft = true := okMD_of k0_X2_youngLeft kt_X2_youngLeft
set_option maxRecDepth 100000 in
theorem kt_X2_oldLeft : okT cX2_oldLeft 1 2 false t_X2_oldLeft = true := by decide +kernel
set_option maxRecDepth 100000 in
theorem k0_X2_oldLeft : okM0 md_X2_oldLeft = true := by decide +kernel
theorem ok_X2_oldLeft : okMD md_X2_oldLeft = true := okMD_of k0_X2_oldLeft kt_X2_oldLeft
set_option maxRecDepth 100000 in
theorem kt_X2_freeUnmarked_0 : okT cX2_freeUnmarked 4 2 false (t_X2_freeUnmarked.take 20) = true := by decide +kernel
set_option maxRecDepth 100000 in
theorem kt_X2_freeUnmarked_1 : okT cX2_freeUnmarked 4 2 false (t_X2_freeUnmarked.drop 20) = true := by decide +kernel
theorem kt_X2_freeUnmarked : okT cX2_freeUnmarked 4 2 false t_X2_freeUnmarked = true := okT_cut 20 kt_X2_freeUnmarked_0 (kt_X2_freeUnmarked_1)
set_option maxRecDepth 100000 in
theorem k0_X2_freeUnmarked : okM0 md_X2_freeUnmarked = true := by decide +kernel
theorem ok_X2_freeUnmarked : okMD md_X2_freeUnmarked = true := okMD_of k0_X2_freeUnmarked kt_X2_freeUnmarked
end
section
set_option maxRecDepth 100000 in
theorem kt_X2_unused_0 : okT cX2_unused 2 2 false (t_X2_unused.take 20) = true := by decide +kernel
set_option maxRecDepth 100000 in
theorem kt_X2_unused_1 : okT cX2_unused 2 2 false ((t_X2_unused.drop 20).take 20) = true := by decide +kernel
set_option maxRecDepth 100000 in
theorem kt_X2_unused_2 : okT cX2_unused 2 2 false ((t_X2_unused.drop 20).drop 20) = true := by decide +kernel
theorem kt_X2_unused : okT cX2_unused 2 2 false t_X2_unused = true := okT_cut 20 kt_X2_unused_0 (okT_cut 20 kt_X2_unused_1 (kt_X2_unused_2))
set_option maxRecDepth 100000 in
theorem k0_X2_unused : okM0 md_X2_unused = true := by decide +kernel
theorem ok_X2_unused : okMD md_X2_unused = true := okMD_of k0_X2_unused kt_X2_unused
set_option maxRecDepth 100000 in
theorem kt_X2_admit_0 : okT cX2_admit 4 2 false (t_X2_admit.take 20) = true := by decide +kernel
set_option maxRecDepth 100000 in
theorem kt_X2_admit_1 : okT cX2_admit 4 2 false (t_X2_admit.drop 20) = true := by decide +kernel
theorem kt_X2_admit : okT cX2_admit 4 2 false t_X2_admit = true := okT_cut 20 kt_X2_admit_0 (kt_X2_admit_1)
set_option maxRecDepth 100000 in
theorem k0_X2_admit : okM0 md_X2_admit = true := by decide +kernel
theorem ok_X2_admit : okMD md_X2_admit = true := okMD_of k0_X2_admit kt_X2_admit
set_option maxRecDepth 100000 in
theorem kt_X2_leaveNursery_0 : okT cX2_leaveNursery 2 2 false (t_X2_leaveNursery.take 20) = true := by decide +kernel
set_option maxRecDepth 100000 in
theorem kt_X2_leaveNursery_1 : okT cX2_leaveNursery 2 2 false (t_X2_leaveNursery.drop 20) = true := by decide +kernel
theorem kt_X2_leaveNursery : okT cX2_leaveNursery 2 2 false t_X2_leaveNursery = true := okT_cut 20 kt_X2_leaveNursery_0 (kt_X2_leaveNursery_1)
set_option maxRecDepth 100000 in
theorem k0_X2_leaveNursery : okM0 md_X2_leaveNursery = true := by decide +kernel
theorem ok_X2_leaveNursery : okMD md_X2_leaveNursery = true := okMD_of k0_X2_leaveNursery kt_X2_leaveNursery
set_option maxRecDepth 100000 in
theorem kt_X2_free_0 : okT cX2_free 2 2 false (t_X2_free.take 20) = true := by decide +kernel
set_option maxRecDepth 100000 in
theorem kt_X2_free_1 : okT cX2_free 2 2 false (t_X2_free.drop 20) = true := by decide +kernel
theorem kt_X2_free : okT cX2_free 2 2 false t_X2_free = true := okT_cut 20 kt_X2_free_0 (kt_X2_free_1)
set_option maxRecDepth 100000 in
theorem k0_X2_free : okM0 md_X2_free = true := by decide +kernel
theorem ok_X2_free : okMD md_X2_free = true := okMD_of k0_X2_free kt_X2_free
set_option maxRecDepth 100000 in
theorem kt_X2_youngMarked_0 : okT cX2_youngMarked 4 2 false (t_X2_youngMarked.take 20) = true := by decide +kernel
set_option maxRecDepth 100000 in
theorem kt_X2_youngMarked_1 : okT cX2_youngMarked 4 2 false (t_X2_youngMarked.drop 20) = true := by decide +kernel
theorem kt_X2_youngMarked : okT cX2_youngMarked 4 2 false t_X2_youngMarked = true := okT_cut 20 kt_X2_youngMarked_0 (kt_X2_youngMarked_1)
set_option maxRecDepth 100000 in
theorem k0_X2_youngMarked : okM0 md_X2_youngMarked = true := by decide +kernel
theorem ok_X2_youngMarked : okMD md_X2_youngMarked = true := okMD_of k0_X2_youngMarked kt_X2_youngMarked
set_option maxRecDepth 100000 in
theorem kt_X2_mark_0 : okT cX2_mark 4 2 false (t_X2_mark.take 20) = true := by decide +kernel
set_option maxRecDepth 100000 in
theorem kt_X2_mark_1 : okT cX2_mark 4 2 false ((t_X2_mark.drop 20).take 20) = true := by decide +kernel
set_option maxRecDepth 100000 in
theorem kt_X2_mark_2 : okT cX2_mark 4 2 false (((t_X2_mark.drop 20).drop 20).take 20) = true := by decide +kernel
set_option maxRecDepth 100000 in
theorem kt_X2_mark_3 : okT cX2_mark 4 2 false ((((t_X2_mark.drop 20).drop 20).drop 20).take 20) = true := by decide +kernel
set_option maxRecDepth 100000 in
theorem kt_X2_mark_4 : okT cX2_mark 4 2 false (((((t_X2_mark.drop 20).drop 20).drop 20).drop 20).take 20) = true := by decide +kernel
set_option maxRecDepth 100000 in
theorem kt_X2_mark_5 : okT cX2_mark 4 2 false ((((((t_X2_mark.drop 20).drop 20).drop 20).drop 20).drop 20).take 20) = true := by decide +kernel
set_option maxRecDepth 100000 in
theorem kt_X2_mark_6 : okT cX2_mark 4 2 false ((((((t_X2_mark.drop 20).drop 20).drop 20).drop 20).drop 20).drop 20) = true := by decide +kernel
theorem kt_X2_mark : okT cX2_mark 4 2 false t_X2_mark = true := okT_cut 20 kt_X2_mark_0 (okT_cut 20 kt_X2_mark_1 (okT_cut 20 kt_X2_mark_2 (okT_cut 20 kt_X2_mark_3 (okT_cut 20 kt_X2_mark_4 (okT_cut 20 kt_X2_mark_5 (kt_X2_mark_6))))))
set_option maxRecDepth 100000 in
theorem k0_X2_mark : okM0 md_X2_mark = true := by decide +kernel
theorem ok_X2_mark : okMD md_X2_mark = true := okMD_of k0_X2_mark kt_X2_mark
set_option maxRecDepth 100000 in
theorem kt_X2_reachRow : okT cX2_reachRow 4 2 false t_X2_reachRow = true := by decide +kernel
set_option maxRecDepth 100000 in
theorem k0_X2_reachRow : okM0 md_X2_reachRow = true := by decide +kernel
theorem ok_X2_reachRow : okMD md_X2_reachRow = true := okMD_of k0_X2_reachRow kt_X2_reachRow
set_option maxRecDepth 100000 in
theorem kt_X2_reach : okT cX2_reach 2 2 false t_X2_reach = true := by decide +kernel
set_option maxRecDepth 100000 in
theorem k0_X2_reach : okM0 md_X2_reach = true := by decide +kernel
theorem ok_X2_reach : okMD md_X2_reach = true := okMD_of k0_X2_reach kt_X2_reach
set_option maxRecDepth 100000 in
theorem kt_X3_init : okT cX3_init 1 3 true t_X3_init = true := by decide +kernel
set_option maxRecDepth 100000 in
theorem k0_X3_init : okM0 md_X3_init = true := by decide +kernel
theorem ok_X3_init : okMD md_X3_init = true := okMD_of k0_X3_init kt_X3_init
set_option maxRecDepth 100000 in
theorem kt_X3_isOf_0 : okT cX3_isOf 4 3 false (t_X3_isOf.take 20) = true := by decide +kernel
set_option maxRecDepth 100000 in
theorem kt_X3_isOf_1 : okT cX3_isOf 4 3 false (t_X3_isOf.drop 20) = true := by decide +kernel
theorem kt_X3_isOf : okT cX3_isOf 4 3 false t_X3_isOf = true := okT_cut 20 kt_X3_isOf_0 (kt_X3_isOf_1)
set_option maxRecDepth 100000 in
theorem k0_X3_isOf : okM0 md_X3_isOf = true := by decide +kernel
theorem ok_X3_isOf : okMD md_X3_isOf = true := okMD_of k0_X3_isOf kt_X3_isOf
set_option maxRecDepth 100000 in
theorem kt_X3_note_0 : okT cX3_note 5 3 false (t_X3_note.take 20) = true := by decide +kernel
set_option maxRecDepth 100000 in
theorem kt_X3_note_1 : okT cX3_note 5 3 false (t_X3_note.drop 20) = true := by decide +kernel
theorem kt_X3_note : okT cX3_note 5 3 false t_X3_note = true := okT_cut 20 kt_X3_note_0 (kt_X3_note_1)
set_option maxRecDepth 100000 in
theorem k0_X3_note : okM0 md_X3_note = true := by decide +kernel
theorem ok_X3_note : okMD md_X3_note = true := okMD_of k0_X3_note kt_X3_note
set_option maxRecDepth 100000 in
theorem kt_X3_hasNamesOf_0 : okT cX3_hasNamesOf 3 3 false (t_X3_hasNamesOf.take 20) = true := by decide +kernel
set_option maxRecDepth 100000 in
theorem kt_X3_hasNamesOf_1 : okT cX3_hasNamesOf 3 3 false (t_X3_hasNamesOf.drop 20) = true := by decide +kernel
theorem kt_X3_hasNamesOf : okT cX3_hasNamesOf 3 3 false t_X3_hasNamesOf = true := okT_cut 20 kt_X3_hasNamesOf_0 (kt_X3_hasNamesOf_1)
set_option maxRecDepth 100000 in
theorem k0_X3_hasNamesOf : okM0 md_X3_hasNamesOf = true := by decide +kernel
theorem ok_X3_hasNamesOf : okMD md_X3_hasNamesOf = true := okMD_of k0_X3_hasNamesOf kt_X3_hasNamesOf
set_option maxRecDepth 100000 in
theorem kt_X4_init : okT cX4_init 1 4 true t_X4_init = true := by decide +kernel
set_option maxRecDepth 100000 in
theorem k0_X4_init : okM0 md_X4_init = true := by decide +kernel
theorem ok_X4_init : okMD md_X4_init = true := okMD_of k0_X4_init kt_X4_init
set_option maxRecDepth 100000 in
theorem kt_X4_add : okT cX4_add 3 4 false t_X4_add = true := by decide +kernel
set_option maxRecDepth 100000 in
theorem k0_X4_add : okM0 md_X4_add = true := by decide +kernel
theorem ok_X4_add : okMD md_X4_add = true := okMD_of k0_X4_add kt_X4_add
set_option maxRecDepth 100000 in
theorem kt_X4_kept : okT cX4_kept 1 4 false t_X4_kept = true := by decide +kernel
set_option maxRecDepth 100000 in
theorem k0_X4_kept : okM0 md_X4_kept = true := by decide +kernel
theorem ok_X4_kept : okMD md_X4_kept = true := okMD_of k0_X4_kept kt_X4_kept
set_option maxRecDepth 100000 in
theorem kt_X5_init_0 : okT cX5_init 1 5 true (t_X5_init.take 20) = true := by decide +kernel
set_option maxRecDepth 100000 in
theorem kt_X5_init_1 : okT cX5_init 1 5 true (t_X5_init.drop 20) = true := by decide +kernel
theorem kt_X5_init : okT cX5_init 1 5 true t_X5_init = true := okT_cut 20 kt_X5_init_0 (kt_X5_init_1)
set_option maxRecDepth 100000 in
theorem k0_X5_init : okM0 md_X5_init = true := by decide +kernel
theorem ok_X5_init : okMD md_X5_init = true := okMD_of k0_X5_init kt_X5_init
set_option maxRecDepth 100000 in
theorem kt_X5_clear_0 : okT cX5_clear 2 5 false (t_X5_clear.take 20) = true := by decide +kernel
set_option maxRecDepth 100000 in
theorem kt_X5_clear_1 : okT cX5_clear 2 5 false (t_X5_clear.drop 20) = true := by decide +kernel
theorem kt_X5_clear : okT cX5_clear 2 5 false t_X5_clear = true := okT_cut 20 kt_X5_clear_0 (kt_X5_clear_1)
set_option maxRecDepth 100000 in
theorem k0_X5_clear : okM0 md_X5_clear = true := by decide +kernel
theorem ok_X5_clear : okMD md_X5_clear = true := okMD_of k0_X5_clear kt_X5_clear
set_option maxRecDepth 100000 in
theorem kt_X5_ofFrame : okT cX5_ofFrame 1 5 false t_X5_ofFrame = true := by decide +kernel
set_option maxRecDepth 100000 in
theorem k0_X5_ofFrame : okM0 md_X5_ofFrame = true := by decide +kernel
theorem ok_X5_ofFrame : okMD md_X5_ofFrame = true := okMD_of k0_X5_ofFrame kt_X5_ofFrame
set_option maxRecDepth 100000 in
theorem kt_X5_fromAbove : okT cX5_fromAbove 2 5 false t_X5_fromAbove = true := by decide +kernel
set_option maxRecDepth 100000 in
theorem k0_X5_fromAbove : okM0 md_X5_fromAbove = true := by decide +kernel
theorem ok_X5_fromAbove : okMD md_X5_fromAbove = true := okMD_of k0_X5_fromAbove kt_X5_fromAbove
set_option maxRecDepth 100000 in
theorem kt_X5_push : okT cX5_push 3 5 false t_X5_push = true := by decide +kernel
set_option maxRecDepth 100000 in
theorem k0_X5_push : okM0 md_X5_push = true := by decide +kernel
theorem ok_X5_push : okMD md_X5_push = true := okMD_of k0_X5_push kt_X5_push
set_option maxRecDepth 100000 in
theorem kt_X5_take : okT cX5_take 3 5 false t_X5_take = true := by decide +kernel
set_option maxRecDepth 100000 in
theorem k0_X5_take : okM0 md_X5_take = true := by decide +kernel
theorem ok_X5_take : okMD md_X5_take = true := okMD_of k0_X5_take kt_X5_take
set_option maxRecDepth 100000 in
theorem kt_X5_lower : okT cX5_lower 2 5 false t_X5_lower = true := by decide +kernel
set_option maxRecDepth 100000 in
theorem k0_X5_lower : okM0 md_X5_lower = true := by decide +kernel
theorem ok_X5_lower : okMD md_X5_lower = true := okMD_of k0_X5_lower kt_X5_lower
set_option maxRecDepth 100000 in
theorem kt_X5_enter_0 : okT cX5_enter 8 5 false (t_X5_enter.take 20) = true := by decide +kernel
set_option maxRecDepth 100000 in
theorem kt_X5_enter_1 : okT cX5_enter 8 5 false ((t_X5_enter.drop 20).take 20) = true := by decide +kernel
set_option maxRecDepth 100000 in
theorem kt_X5_enter_2 : okT cX5_enter 8 5 false ((t_X5_enter.drop 20).drop 20) = true := by decide +kernel
theorem kt_X5_enter : okT cX5_enter 8 5 false t_X5_enter = true := okT_cut 20 kt_X5_enter_0 (okT_cut 20 kt_X5_enter_1 (kt_X5_enter_2))
set_option maxRecDepth 100000 in
theorem k0_X5_enter : okM0 md_X5_enter = true := by decide +kernel
theorem ok_X5_enter : okMD md_X5_enter = true := okMD_of k0_X5_enter kt_X5_enter
set_option maxRecDepth 100000 in
theorem kt_X5_leave_0 : okT cX5_leave 3 5 false (t_X5_leave.take 20) = true := by decide +kernel
set_option maxRecDepth 100000 in
theorem kt_X5_leave_1 : okT cX5_leave 3 5 false (t_X5_leave.drop 20) = true := by decide +kernel
theorem kt_X5_leave : okT cX5_leave 3 5 false t_X5_leave = true := okT_cut 20 kt_X5_leave_0 (kt_X5_leave_1)
set_option maxRecDepth 100000 in
theorem k0_X5_leave : okM0 md_X5_leave = true := by decide +kernel
theorem ok_X5_leave : okMD md_X5_leave = true := okMD_of k0_X5_leave kt_X5_leave
set_option maxRecDepth 100000 in
theorem kt_X5_globalAt : okT cX5_globalAt 2 5 false t_X5_globalAt = true := by decide +kernel
set_option maxRecDepth 100000 in
theorem k0_X5_globalAt : okM0 md_X5_globalAt = true := by decide +kernel
theorem ok_X5_globalAt : okMD md_X5_globalAt = true := okMD_of k0_X5_globalAt kt_X5_globalAt
set_option maxRecDepth 100000 in
theorem kt_X5_putGlobal : okT cX5_putGlobal 4 5 false t_X5_putGlobal = true := by decide +kernel
set_option maxRecDepth 100000 in
theorem k0_X5_putGlobal : okM0 md_X5_putGlobal = true := by decide +kernel
theorem ok_X5_putGlobal : okMD md_X5_putGlobal = true := okMD_of k0_X5_putGlobal kt_X5_putGlobal
set_option maxRecDepth 100000 in
theorem kt_X5_protoOf : okT cX5_protoOf 2 5 false t_X5_protoOf = true := by decide +kernel
set_option maxRecDepth 100000 in
theorem k0_X5_protoOf : okM0 md_X5_protoOf = true := by decide +kernel
theorem ok_X5_protoOf : okMD md_X5_protoOf = true := okMD_of k0_X5_protoOf kt_X5_protoOf
set_option maxRecDepth 100000 in
theorem kt_X5_putProto : okT cX5_putProto 3 5 false t_X5_putProto = true := by decide +kernel
set_option maxRecDepth 100000 in
theorem k0_X5_putProto : okM0 md_X5_putProto = true := by decide +kernel
theorem ok_X5_putProto : okMD md_X5_putProto = true := okMD_of k0_X5_putProto kt_X5_putProto
end
section
set_option maxRecDepth 100000 in
theorem kt_X6_init : okT cX6_init 2 6 true t_X6_init = true := by decide +kernel
set_option maxRecDepth 100000 in
theorem k0_X6_init : okM0 md_X6_init = true := by decide +kernel
theorem ok_X6_init : okMD md_X6_init = true := okMD_of k0_X6_init kt_X6_init
set_option maxRecDepth 100000 in
theorem kt_X6_size : okT cX6_size 1 6 false t_X6_size = true := by decide +kernel
set_option maxRecDepth 100000 in
theorem k0_X6_size : okM0 md_X6_size = true := by decide +kernel
theorem ok_X6_size : okMD md_X6_size = true := okMD_of k0_X6_size kt_X6_size
set_option maxRecDepth 100000 in
theorem kt_X6_indexOf : okT cX6_indexOf 3 6 false t_X6_indexOf = true := by decide +kernel
set_option maxRecDepth 100000 in
theorem k0_X6_indexOf : okM0 md_X6_indexOf = true := by decide +kernel
theorem ok_X6_indexOf : okMD md_X6_indexOf = true := okMD_of k0_X6_indexOf kt_X6_indexOf
set_option maxRecDepth 100000 in
theorem kt_X6_valueOf : okT cX6_valueOf 3 6 false t_X6_valueOf = true := by decide +kernel
set_option maxRecDepth 100000 in
theorem k0_X6_valueOf : okM0 md_X6_valueOf = true := by decide +kernel
theorem ok_X6_valueOf : okMD md_X6_valueOf = true := okMD_of k0_X6_valueOf kt_X6_valueOf
set_option maxRecDepth 100000 in
theorem kt_X6_copy_0 : okT cX6_copy 2 6 false (t_X6_copy.take 20) = true := by decide +kernel
set_option maxRecDepth 100000 in
theorem kt_X6_copy_1 : okT cX6_copy 2 6 false (t_X6_copy.drop 20) = true := by decide +kernel
theorem kt_X6_copy : okT cX6_copy 2 6 false t_X6_copy = true := okT_cut 20 kt_X6_copy_0 (kt_X6_copy_1)
set_option maxRecDepth 100000 in
theorem k0_X6_copy : okM0 md_X6_copy = true := by decide +kernel
theorem ok_X6_copy : okMD md_X6_copy = true := okMD_of k0_X6_copy kt_X6_copy
set_option maxRecDepth 100000 in
theorem kt_X7_init : okT cX7_init 1 7 true t_X7_init = true := by decide +kernel
set_option maxRecDepth 100000 in
theorem k0_X7_init : okM0 md_X7_init = true := by decide +kernel
theorem ok_X7_init : okMD md_X7_init = true := okMD_of k0_X7_init kt_X7_init
set_option maxRecDepth 100000 in
theorem kt_X7_memory : okT cX7_memory 1 7 false t_X7_memory = true := by decide +kernel
set_option maxRecDepth 100000 in
theorem k0_X7_memory : okM0 md_X7_memory = true := by decide +kernel
theorem ok_X7_memory : okMD md_X7_memory = true := okMD_of k0_X7_memory kt_X7_memory
set_option maxRecDepth 100000 in
theorem kt_X7_forget : okT cX7_forget 1 7 false t_X7_forget = true := by decide +kernel
set_option maxRecDepth 100000 in
theorem k0_X7_forget : okM0 md_X7_forget = true := by decide +kernel
theorem ok_X7_forget : okMD md_X7_forget = true := okMD_of k0_X7_forget kt_X7_forget
set_option maxRecDepth 100000 in
theorem kt_X7_wanted : okT cX7_wanted 1 7 false t_X7_wanted = true := by decide +kernel
set_option maxRecDepth 100000 in
theorem k0_X7_wanted : okM0 md_X7_wanted = true := by decide +kernel
theorem ok_X7_wanted : okMD md_X7_wanted = true := okMD_of k0_X7_wanted kt_X7_wanted
set_option maxRecDepth 100000 in
theorem kt_X7_kindsAbove : okT cX7_kindsAbove 1 7 false t_X7_kindsAbove = true := by decide +kernel
set_option maxRecDepth 100000 in
theorem k0_X7_kindsAbove : okM0 md_X7_kindsAbove = true := by decide +kernel
theorem ok_X7_kindsAbove : okMD md_X7_kindsAbove = true := okMD_of k0_X7_kindsAbove kt_X7_kindsAbove
set_option maxRecDepth 100000 in
theorem kt_X7_kindsBelow : okT cX7_kindsBelow 1 7 false t_X7_kindsBelow = true := by decide +kernel
set_option maxRecDepth 100000 in
theorem k0_X7_kindsBelow : okM0 md_X7_kindsBelow = true := by decide +kernel
theorem ok_X7_kindsBelow : okMD md_X7_kindsBelow = true := okMD_of k0_X7_kindsBelow kt_X7_kindsBelow
set_option maxRecDepth 100000 in
theorem kt_X7_isOperation : okT cX7_isOperation 1 7 false t_X7_isOperation = true := by decide +kernel
set_option maxRecDepth 100000 in
theorem k0_X7_isOperation : okM0 md_X7_isOperation = true := by decide +kernel
theorem ok_X7_isOperation : okMD md_X7_isOperation = true := okMD_of k0_X7_isOperation kt_X7_isOperation
set_option maxRecDepth 100000 in
theorem kt_X7_isInRange_0 : okT cX7_isInRange 1 7 false (t_X7_isInRange.take 20) = true := by decide +kernel
set_option maxRecDepth 100000 in
theorem kt_X7_isInRange_1 : okT cX7_isInRange 1 7 false ((t_X7_isInRange.drop 20).take 20) = true := by decide +kernel
set_option maxRecDepth 100000 in
theorem kt_X7_isInRange_2 : okT cX7_isInRange 1 7 false ((t_X7_isInRange.drop 20).drop 20) = true := by decide +kernel
theorem kt_X7_isInRange : okT cX7_isInRange 1 7 false t_X7_isInRange = true := okT_cut 20 kt_X7_isInRange_0 (okT_cut 20 kt_X7_isInRange_1 (kt_X7_isInRange_2))
set_option maxRecDepth 100000 in
theorem k0_X7_isInRange : okM0 md_X7_isInRange = true := by decide +kernel
theorem ok_X7_isInRange : okMD md_X7_isInRange = true := okMD_of k0_X7_isInRange kt_X7_isInRange
set_option maxRecDepth 100000 in
theorem kt_X7_goesToLabel : okT cX7_goesToLabel 1 7 false t_X7_goesToLabel = true := by decide +kernel
set_option maxRecDepth 100000 in
theorem k0_X7_goesToLabel : okM0 md_X7_goesToLabel = true := by decide +kernel
theorem ok_X7_goesToLabel : okMD md_X7_goesToLabel = true := okMD_of k0_X7_goesToLabel kt_X7_goesToLabel
set_option maxRecDepth 100000 in
theorem kt_X7_mostOfA : okT cX7_mostOfA 1 7 false t_X7_mostOfA = true := by decide +kernel
set_option maxRecDepth 100000 in
theorem k0_X7_mostOfA : okM0 md_X7_mostOfA = true := by decide +kernel
theorem ok_X7_mostOfA : okMD md_X7_mostOfA = true := okMD_of k0_X7_mostOfA kt_X7_mostOfA
set_option maxRecDepth 100000 in
theorem kt_X7_mostOfB : okT cX7_mostOfB 1 7 false t_X7_mostOfB = true := by decide +kernel
set_option maxRecDepth 100000 in
theorem k0_X7_mostOfB : okM0 md_X7_mostOfB = true := by decide +kernel
theorem ok_X7_mostOfB : okMD md_X7_mostOfB = true := okMD_of k0_X7_mostOfB kt_X7_mostOfB
set_option maxRecDepth 100000 in
theorem kt_X8_init_0 : okT cX8_init 3 8 true (t_X8_init.take 20) = true := by decide +kernel
set_option maxRecDepth 100000 in
theorem kt_X8_init_1 : okT cX8_init 3 8 true (t_X8_init.drop 20) = true := by decide +kernel
theorem kt_X8_init : okT cX8_init 3 8 true t_X8_init = true := okT_cut 20 kt_X8_init_0 (kt_X8_init_1)
set_option maxRecDepth 100000 in
theorem k0_X8_init : okM0 md_X8_init = true := by decide +kernel
theorem ok_X8_init : okMD md_X8_init = true := okMD_of k0_X8_init kt_X8_init
set_option maxRecDepth 100000 in
theorem kt_X8_asm : okT cX8_asm 4 8 false t_X8_asm = true := by decide +kernel
set_option maxRecDepth 100000 in
theorem k0_X8_asm : okM0 md_X8_asm = true := by decide +kernel
theorem ok_X8_asm : okMD md_X8_asm = true := okMD_of k0_X8_asm kt_X8_asm
set_option maxRecDepth 100000 in
theorem kt_X8_wipe : okT cX8_wipe 2 8 false t_X8_wipe = true := by decide +kernel
set_option maxRecDepth 100000 in
theorem k0_X8_wipe : okM0 md_X8_wipe = true := by decide +kernel
theorem ok_X8_wipe : okMD md_X8_wipe = true := okMD_of k0_X8_wipe kt_X8_wipe
set_option maxRecDepth 100000 in
theorem kt_X8_link : okT cX8_link 2 8 false t_X8_link = true := by decide +kernel
set_option maxRecDepth 100000 in
theorem k0_X8_link : okM0 md_X8_link = true := by decide +kernel
theorem ok_X8_link : okMD md_X8_link = true := okMD_of k0_X8_link kt_X8_link
set_option maxRecDepth 100000 in
theorem kt_X8_fault : okT cX8_fault 1 8 false t_X8_fault = true := by decide +kernel
set_option maxRecDepth 100000 in
theorem k0_X8_fault : okM0 md_X8_fault = true := by decide +kernel
theorem ok_X8_fault : okMD md_X8_fault = true := okMD_of k0_X8_fault kt_X8_fault
set_option maxRecDepth 100000 in
theorem kt_X8_step : okT cX8_step 1 8 false t_X8_step = true := by decide +kernel
set_option maxRecDepth 100000 in
theorem k0_X8_step : okM0 md_X8_step = true := by decide +kernel
theorem ok_X8_step : okMD md_X8_step = true := okMD_of k0_X8_step kt_X8_step
set_option maxRecDepth 100000 in
theorem kt_X8_run_0 : okT cX8_run 3 8 false (t_X8_run.take 20) = true := by decide +kernel
set_option maxRecDepth 100000 in
theorem kt_X8_run_1 : okT cX8_run 3 8 false (t_X8_run.drop 20) = true := by decide +kernel
theorem kt_X8_run : okT cX8_run 3 8 false t_X8_run = true := okT_cut 20 kt_X8_run_0 (kt_X8_run_1)
set_option maxRecDepth 100000 in
theorem k0_X8_run : okM0 md_X8_run = true := by decide +kernel
theorem ok_X8_run : okMD md_X8_run = true := okMD_of k0_X8_run kt_X8_run
set_option maxRecDepth 100000 in
theorem kt_X8_restart : okT cX8_restart 2 8 false t_X8_restart = true := by decide +kernel
set_option maxRecDepth 100000 in
theorem k0_X8_restart : okM0 md_X8_restart = true := by decide +kernel
theorem ok_X8_restart : okMD md_X8_restart = true := okMD_of k0_X8_restart kt_X8_restart
set_option maxRecDepth 100000 in
theorem kt_X8_collectMinor : okT cX8_collectMinor 1 8 false t_X8_collectMinor = true := by decide +kernel
set_option maxRecDepth 100000 in
theorem k0_X8_collectMinor : okM0 md_X8_collectMinor = true := by decide +kernel
theorem ok_X8_collectMinor : okMD md_X8_collectMinor = true := okMD_of k0_X8_collectMinor kt_X8_collectMinor
set_option maxRecDepth 100000 in
theorem kt_X8_collectMajor : okT cX8_collectMajor 1 8 false t_X8_collectMajor = true := by decide +kernel
set_option maxRecDepth 100000 in
theorem k0_X8_collectMajor : okM0 md_X8_collectMajor = true := by decide +kernel
theorem ok_X8_collectMajor : okMD md_X8_collectMajor = true := okMD_of k0_X8_collectMajor kt_X8_collectMajor
set_option maxRecDepth 100000 in
theorem kt_X8_many_0 : okT cX8_many 2 8 false (t_X8_many.take 20) = true := by decide +kernel
set_option maxRecDepth 100000 in
theorem kt_X8_many_1 : okT cX8_many 2 8 false (t_X8_many.drop 20) = true := by decide +kernel
theorem kt_X8_many : okT cX8_many 2 8 false t_X8_many = true := okT_cut 20 kt_X8_many_0 (kt_X8_many_1)
set_option maxRecDepth 100000 in
theorem k0_X8_many : okM0 md_X8_many = true := by decide +kernel
theorem ok_X8_many : okMD md_X8_many = true := okMD_of k0_X8_many kt_X8_many
set_option maxRecDepth 100000 in
theorem kt_X8_pile : okT cX8_pile 3 8 false t_X8_pile = true := by decide +kernel
set_option maxRecDepth 100000 in
theorem k0_X8_pile : okM0 md_X8_pile = true := by decide +kernel
theorem ok_X8_pile : okMD md_X8_pile = true := okMD_of k0_X8_pile kt_X8_pile
set_option maxRecDepth 100000 in
theorem kt_X8_local_0 : okT cX8_local 3 8 false (t_X8_local.take 20) = true := by decide +kernel
set_option maxRecDepth 100000 in
theorem kt_X8_local_1 : okT cX8_local 3 8 false (t_X8_local.drop 20) = true := by decide +kernel
theorem kt_X8_local : okT cX8_local 3 8 false t_X8_local = true := okT_cut 20 kt_X8_local_0 (kt_X8_local_1)
set_option maxRecDepth 100000 in
theorem k0_X8_local : okM0 md_X8_local = true := by decide +kernel
theorem ok_X8_local : okMD md_X8_local = true := okMD_of k0_X8_local kt_X8_local
set_option maxRecDepth 100000 in
theorem kt_X8_object_0 : okT cX8_object 4 8 false (t_X8_object.take 20) = true := by decide +kernel
set_option maxRecDepth 100000 in
theorem kt_X8_object_1 : okT cX8_object 4 8 false ((t_X8_object.drop 20).take 20) = true := by decide +kernel
set_option maxRecDepth 100000 in
theorem kt_X8_object_2 : okT cX8_object 4 8 false ((t_X8_object.drop 20).drop 20) = true := by decide +kernel
theorem kt_X8_object : okT cX8_object 4 8 false t_X8_object = true := okT_cut 20 kt_X8_object_0 (okT_cut 20 kt_X8_object_1 (kt_X8_object_2))
set_option maxRecDepth 100000 in
theorem k0_X8_object : okM0 md_X8_object = true := by decide +kernel
theorem ok_X8_object : okMD md_X8_object = true := okMD_of k0_X8_object kt_X8_object
set_option maxRecDepth 100000 in
theorem kt_X8_slot_0 : okT cX8_slot 5 8 false (t_X8_slot.take 20) = true := by decide +kernel
set_option maxRecDepth 100000 in
theorem kt_X8_slot_1 : okT cX8_slot 5 8 false (t_X8_slot.drop 20) = true := by decide +kernel
theorem kt_X8_slot : okT cX8_slot 5 8 false t_X8_slot = true := okT_cut 20 kt_X8_slot_0 (kt_X8_slot_1)
set_option maxRecDepth 100000 in
theorem k0_X8_slot : okM0 md_X8_slot = true := by decide +kernel
theorem ok_X8_slot : okMD md_X8_slot = true := okMD_of k0_X8_slot kt_X8_slot
set_option maxRecDepth 100000 in
theorem kt_X8_outSize : okT cX8_outSize 1 8 false t_X8_outSize = true := by decide +kernel
set_option maxRecDepth 100000 in
theorem k0_X8_outSize : okM0 md_X8_outSize = true := by decide +kernel
theorem ok_X8_outSize : okMD md_X8_outSize = true := okMD_of k0_X8_outSize kt_X8_outSize
set_option maxRecDepth 100000 in
theorem kt_X8_out : okT cX8_out 3 8 false t_X8_out = true := by decide +kernel
set_option maxRecDepth 100000 in
theorem k0_X8_out : okM0 md_X8_out = true := by decide +kernel
theorem ok_X8_out : okMD md_X8_out = true := okMD_of k0_X8_out kt_X8_out
set_option maxRecDepth 100000 in
theorem kt_X8_count_0 : okT cX8_count 2 8 false (t_X8_count.take 20) = true := by decide +kernel
set_option maxRecDepth 100000 in
theorem kt_X8_count_1 : okT cX8_count 2 8 false ((t_X8_count.drop 20).take 20) = true := by decide +kernel
set_option maxRecDepth 100000 in
theorem kt_X8_count_2 : okT cX8_count 2 8 false ((t_X8_count.drop 20).drop 20) = true := by decide +kernel
theorem kt_X8_count : okT cX8_count 2 8 false t_X8_count = true := okT_cut 20 kt_X8_count_0 (okT_cut 20 kt_X8_count_1 (kt_X8_count_2))
set_option maxRecDepth 100000 in
theorem k0_X8_count : okM0 md_X8_count = true := by decide +kernel
theorem ok_X8_count : okMD md_X8_count = true := okMD_of k0_X8_count kt_X8_count
set_option maxRecDepth 100000 in
theorem kt_X8_unlink : okT cX8_unlink 1 8 false t_X8_unlink = true := by decide +kernel
set_option maxRecDepth 100000 in
theorem k0_X8_unlink : okM0 md_X8_unlink = true := by decide +kernel
theorem ok_X8_unlink : okMD md_X8_unlink = true := okMD_of k0_X8_unlink kt_X8_unlink
set_option maxRecDepth 100000 in
theorem kt_X8_beginAnew_0 : okT cX8_beginAnew 1 8 false (t_X8_beginAnew.take 20) = true := by decide +kernel
set_option maxRecDepth 100000 in
theorem kt_X8_beginAnew_1 : okT cX8_beginAnew 1 8 false (t_X8_beginAnew.drop 20) = true := by decide +kernel
theorem kt_X8_beginAnew : okT cX8_beginAnew 1 8 false t_X8_beginAnew = true := okT_cut 20 kt_X8_beginAnew_0 (kt_X8_beginAnew_1)
set_option maxRecDepth 100000 in
theorem k0_X8_beginAnew : okM0 md_X8_beginAnew = true := by decide +kernel
theorem ok_X8_beginAnew : okMD md_X8_beginAnew = true := okMD_of k0_X8_beginAnew kt_X8_beginAnew
end
section
set_option maxRecDepth 100000 in
theorem kt_X8_advance_0 : okT cX8_advance 3 8 false (t_X8_advance.take 20) = true := by decide +kernel
set_option maxRecDepth 100000 in
theorem kt_X8_advance_1 : okT cX8_advance 3 8 false ((t_X8_advance.drop 20).take 20) = true := by decide +kernel
set_option maxRecDepth 100000 in
theorem kt_X8_advance_2 : okT cX8_advance 3 8 false ((t_X8_advance.drop 20).drop 20) = true := by decide +kernel
theorem kt_X8_advance : okT cX8_advance 3 8 false t_X8_advance = true := okT_cut 20 kt_X8_advance_0 (okT_cut 20 kt_X8_advance_1 (kt_X8_advance_2))
set_option maxRecDepth 100000 in
theorem k0_X8_advance : okM0 md_X8_advance = true := by decide +kernel
theorem ok_X8_advance : okMD md_X8_advance = true := okMD_of k0_X8_advance kt_X8_advance
set_option maxRecDepth 100000 in
theorem kt_X8_valuesEnd_0 : okT cX8_valuesEnd 3 8 false (t_X8_valuesEnd.take 20) = true := by decide +kernel
set_option maxRecDepth 100000 in
theorem kt_X8_valuesEnd_1 : okT cX8_valuesEnd 3 8 false (t_X8_valuesEnd.drop 20) = true := by decide +kernel
theorem kt_X8_valuesEnd : okT cX8_valuesEnd 3 8 false t_X8_valuesEnd = true := okT_cut 20 kt_X8_valuesEnd_0 (kt_X8_valuesEnd_1)
set_option maxRecDepth 100000 in
theorem k0_X8_valuesEnd : okM0 md_X8_valuesEnd = true := by decide +kernel
theorem ok_X8_valuesEnd : okMD md_X8_valuesEnd = true := okMD_of k0_X8_valuesEnd kt_X8_valuesEnd
set_option maxRecDepth 100000 in
theorem kt_X8_roomEnd_0 : okT cX8_roomEnd 3 8 false (t_X8_roomEnd.take 20) = true := by decide +kernel
set_option maxRecDepth 100000 in
theorem kt_X8_roomEnd_1 : okT cX8_roomEnd 3 8 false ((t_X8_roomEnd.drop 20).take 20) = true := by decide +kernel
set_option maxRecDepth 100000 in
theorem kt_X8_roomEnd_2 : okT cX8_roomEnd 3 8 false (((t_X8_roomEnd.drop 20).drop 20).take 20) = true := by decide +kernel
set_option maxRecDepth 100000 in
theorem kt_X8_roomEnd_3 : okT cX8_roomEnd 3 8 false (((t_X8_roomEnd.drop 20).drop 20).drop 20) = true := by decide +kernel
theorem kt_X8_roomEnd : okT cX8_roomEnd 3 8 false t_X8_roomEnd = true := okT_cut 20 kt_X8_roomEnd_0 (okT_cut 20 kt_X8_roomEnd_1 (okT_cut 20 kt_X8_roomEnd_2 (kt_X8_roomEnd_3)))
set_option maxRecDepth 100000 in
theorem k0_X8_roomEnd : okM0 md_X8_roomEnd = true := by decide +kernel
theorem ok_X8_roomEnd : okMD md_X8_roomEnd = true := okMD_of k0_X8_roomEnd kt_X8_roomEnd
set_option maxRecDepth 100000 in
theorem kt_X8_perform_0 : okT cX8_perform 2 8 false (t_X8_perform.take 20) = true := by decide +kernel
set_option maxRecDepth 100000 in
theorem kt_X8_perform_1 : okT cX8_perform 2 8 false ((t_X8_perform.drop 20).take 20) = true := by decide +kernel
set_option maxRecDepth 100000 in
theorem kt_X8_perform_2 : okT cX8_perform 2 8 false (((t_X8_perform.drop 20).drop 20).take 20) = true := by decide +kernel
set_option maxRecDepth 100000 in
theorem kt_X8_perform_3 : okT cX8_perform 2 8 false ((((t_X8_perform.drop 20).drop 20).drop 20).take 20) = true := by decide +kernel
set_option maxRecDepth 100000 in
theorem kt_X8_perform_4 : okT cX8_perform 2 8 false (((((t_X8_perform.drop 20).drop 20).drop 20).drop 20).take 20) = true := by decide +kernel
set_option maxRecDepth 100000 in
theorem kt_X8_perform_5 : okT cX8_perform 2 8 false ((((((t_X8_perform.drop 20).drop 20).drop 20).drop 20).drop 20).take 20) = true := by decide +kernel
set_option maxRecDepth 100000 in
theorem kt_X8_perform_6 : okT cX8_perform 2 8 false (((((((t_X8_perform.drop 20).drop 20).drop 20).drop 20).drop 20).drop 20).take 20) = true := by decide +kernel
set_option maxRecDepth 100000 in
theorem kt_X8_perform_7 : okT cX8_perform 2 8 false ((((((((t_X8_perform.drop 20).drop 20).drop 20).drop 20).drop 20).drop 20).drop 20).take 20) = true := by decide +kernel
set_option maxRecDepth 100000 in
theorem kt_X8_perform_8 : okT cX8_perform 2 8 false (((((((((t_X8_perform.drop 20).drop 20).drop 20).drop 20).drop 20).drop 20).drop 20).drop 20).take 20) = true := by decide +kernel
set_option maxRecDepth 100000 in
theorem kt_X8_perform_9 : okT cX8_perform 2 8 false (((((((((t_X8_perform.drop 20).drop 20).drop 20).drop 20).drop 20).drop 20).drop 20).drop 20).drop 20) = true := by decide +kernel
theorem kt_X8_perform : okT cX8_perform 2 8 false t_X8_perform = true := okT_cut 20 kt_X8_perform_0 (okT_cut 20 kt_X8_perform_1 (okT_cut 20 kt_X8_perform_2 (okT_cut 20 kt_X8_perform_3 (okT_cut 20 kt_X8_perform_4 (okT_cut 20 kt_X8_perform_5 (okT_cut 20 kt_X8_perform_6 (okT_cut 20 kt_X8_perform_7 (okT_cut 20 kt_X8_perform_8 (kt_X8_perform_9)))))))))
set_option maxRecDepth 100000 in
theorem k0_X8_perform : okM0 md_X8_perform = true := by decide +kernel
theorem ok_X8_perform : okMD md_X8_perform = true := okMD_of k0_X8_perform kt_X8_perform
set_option maxRecDepth 100000 in
theorem kt_X8_bring : okT cX8_bring 3 8 false t_X8_bring = true := by decide +kernel
set_option maxRecDepth 100000 in
theorem k0_X8_bring : okM0 md_X8_bring = true := by decide +kernel
theorem ok_X8_bring : okMD md_X8_bring = true := okMD_of k0_X8_bring kt_X8_bring
set_option maxRecDepth 100000 in
theorem kt_X8_exchange : okT cX8_exchange 4 8 false t_X8_exchange = true := by decide +kernel
set_option maxRecDepth 100000 in
theorem k0_X8_exchange : okM0 md_X8_exchange = true := by decide +kernel
theorem ok_X8_exchange : okMD md_X8_exchange = true := okMD_of k0_X8_exchange kt_X8_exchange
set_option maxRecDepth 100000 in
theorem kt_X8_letGo : okT cX8_letGo 2 8 false t_X8_letGo = true := by decide +kernel
set_option maxRecDepth 100000 in
theorem k0_X8_letGo : okM0 md_X8_letGo = true := by decide +kernel
theorem ok_X8_letGo : okMD md_X8_letGo = true := okMD_of k0_X8_letGo kt_X8_letGo
set_option maxRecDepth 100000 in
theorem kt_X8_swap : okT cX8_swap 5 8 false t_X8_swap = true := by decide +kernel
set_option maxRecDepth 100000 in
theorem k0_X8_swap : okM0 md_X8_swap = true := by decide +kernel
theorem ok_X8_swap : okMD md_X8_swap = true := okMD_of k0_X8_swap kt_X8_swap
set_option maxRecDepth 100000 in
theorem kt_X8_reckon_0 : okT cX8_reckon 6 8 false (t_X8_reckon.take 20) = true := by decide +kernel
set_option maxRecDepth 100000 in
theorem kt_X8_reckon_1 : okT cX8_reckon 6 8 false ((t_X8_reckon.drop 20).take 20) = true := by decide +kernel
set_option maxRecDepth 100000 in
theorem kt_X8_reckon_2 : okT cX8_reckon 6 8 false ((t_X8_reckon.drop 20).drop 20) = true := by decide +kernel
theorem kt_X8_reckon : okT cX8_reckon 6 8 false t_X8_reckon = true := okT_cut 20 kt_X8_reckon_0 (okT_cut 20 kt_X8_reckon_1 (kt_X8_reckon_2))
set_option maxRecDepth 100000 in
theorem k0_X8_reckon : okM0 md_X8_reckon = true := by decide +kernel
theorem ok_X8_reckon : okMD md_X8_reckon = true := okMD_of k0_X8_reckon kt_X8_reckon
set_option maxRecDepth 100000 in
theorem kt_X8_arithmetic_0 : okT cX8_arithmetic 5 8 false (t_X8_arithmetic.take 20) = true := by decide +kernel
set_option maxRecDepth 100000 in
theorem kt_X8_arithmetic_1 : okT cX8_arithmetic 5 8 false (t_X8_arithmetic.drop 20) = true := by decide +kernel
theorem kt_X8_arithmetic : okT cX8_arithmetic 5 8 false t_X8_arithmetic = true := okT_cut 20 kt_X8_arithmetic_0 (kt_X8_arithmetic_1)
set_option maxRecDepth 100000 in
theorem k0_X8_arithmetic : okM0 md_X8_arithmetic = true := by decide +kernel
theorem ok_X8_arithmetic : okMD md_X8_arithmetic = true := okMD_of k0_X8_arithmetic kt_X8_arithmetic
set_option maxRecDepth 100000 in
theorem kt_X8_jump : okT cX8_jump 2 8 false t_X8_jump = true := by decide +kernel
set_option maxRecDepth 100000 in
theorem k0_X8_jump : okM0 md_X8_jump = true := by decide +kernel
theorem ok_X8_jump : okMD md_X8_jump = true := okMD_of k0_X8_jump kt_X8_jump
set_option maxRecDepth 100000 in
theorem kt_X8_store : okT cX8_store 2 8 false t_X8_store = true := by decide +kernel
set_option maxRecDepth 100000 in
theorem k0_X8_store : okM0 md_X8_store = true := by decide +kernel
theorem ok_X8_store : okMD md_X8_store = true := okMD_of k0_X8_store kt_X8_store
set_option maxRecDepth 100000 in
theorem kt_X8_keep : okT cX8_keep 2 8 false t_X8_keep = true := by decide +kernel
set_option maxRecDepth 100000 in
theorem k0_X8_keep : okM0 md_X8_keep = true := by decide +kernel
theorem ok_X8_keep : okMD md_X8_keep = true := okMD_of k0_X8_keep kt_X8_keep
set_option maxRecDepth 100000 in
theorem kt_X8_print : okT cX8_print 1 8 false t_X8_print = true := by decide +kernel
set_option maxRecDepth 100000 in
theorem k0_X8_print : okM0 md_X8_print = true := by decide +kernel
theorem ok_X8_print : okMD md_X8_print = true := okMD_of k0_X8_print kt_X8_print
set_option maxRecDepth 100000 in
theorem kt_X8_giveBack : okT cX8_giveBack 1 8 false t_X8_giveBack = true := by decide +kernel
set_option maxRecDepth 100000 in
theorem k0_X8_giveBack : okM0 md_X8_giveBack = true := by decide +kernel
theorem ok_X8_giveBack : okMD md_X8_giveBack = true := okMD_of k0_X8_giveBack kt_X8_giveBack
set_option maxRecDepth 100000 in
theorem kt_X8_makeNew_0 : okT cX8_makeNew 2 8 false (t_X8_makeNew.take 20) = true := by decide +kernel
set_option maxRecDepth 100000 in
theorem kt_X8_makeNew_1 : okT cX8_makeNew 2 8 false (t_X8_makeNew.drop 20) = true := by decide +kernel
theorem kt_X8_makeNew : okT cX8_makeNew 2 8 false t_X8_makeNew = true := okT_cut 20 kt_X8_makeNew_0 (kt_X8_makeNew_1)
set_option maxRecDepth 100000 in
theorem k0_X8_makeNew : okM0 md_X8_makeNew = true := by decide +kernel
theorem ok_X8_makeNew : okMD md_X8_makeNew = true := okMD_of k0_X8_makeNew kt_X8_makeNew
set_option maxRecDepth 100000 in
theorem kt_X8_makeCopy_0 : okT cX8_makeCopy 3 8 false (t_X8_makeCopy.take 20) = true := by decide +kernel
set_option maxRecDepth 100000 in
theorem kt_X8_makeCopy_1 : okT cX8_makeCopy 3 8 false (t_X8_makeCopy.drop 20) = true := by decide +kernel
theorem kt_X8_makeCopy : okT cX8_makeCopy 3 8 false t_X8_makeCopy = true := okT_cut 20 kt_X8_makeCopy_0 (kt_X8_makeCopy_1)
set_option maxRecDepth 100000 in
theorem k0_X8_makeCopy : okM0 md_X8_makeCopy = true := by decide +kernel
theorem ok_X8_makeCopy : okMD md_X8_makeCopy = true := okMD_of k0_X8_makeCopy kt_X8_makeCopy
set_option maxRecDepth 100000 in
theorem kt_X8_get_0 : okT cX8_get 5 8 false (t_X8_get.take 20) = true := by decide +kernel
set_option maxRecDepth 100000 in
theorem kt_X8_get_1 : okT cX8_get 5 8 false (t_X8_get.drop 20) = true := by decide +kernel
theorem kt_X8_get : okT cX8_get 5 8 false t_X8_get = true := okT_cut 20 kt_X8_get_0 (kt_X8_get_1)
set_option maxRecDepth 100000 in
theorem k0_X8_get : okM0 md_X8_get = true := by decide +kernel
theorem ok_X8_get : okMD md_X8_get = true := okMD_of k0_X8_get kt_X8_get
set_option maxRecDepth 100000 in
theorem kt_X8_set_0 : okT cX8_set 4 8 false (t_X8_set.take 20) = true := by decide +kernel
set_option maxRecDepth 100000 in
theorem kt_X8_set_1 : okT cX8_set 4 8 false ((t_X8_set.drop 20).take 20) = true := by decide +kernel
set_option maxRecDepth 100000 in
theorem kt_X8_set_2 : okT cX8_set 4 8 false ((t_X8_set.drop 20).drop 20) = true := by decide +kernel
theorem kt_X8_set : okT cX8_set 4 8 false t_X8_set = true := okT_cut 20 kt_X8_set_0 (okT_cut 20 kt_X8_set_1 (kt_X8_set_2))
set_option maxRecDepth 100000 in
theorem k0_X8_set : okM0 md_X8_set = true := by decide +kernel
theorem ok_X8_set : okMD md_X8_set = true := okMD_of k0_X8_set kt_X8_set
end
section
set_option maxRecDepth 100000 in
theorem kt_X8_drop_0 : okT cX8_drop 4 8 false (t_X8_drop.take 20) = true := by decide +kernel
set_option maxRecDepth 100000 in
theorem kt_X8_drop_1 : okT cX8_drop 4 8 false (t_X8_drop.drop 20) = true := by decide +kernel
theorem kt_X8_drop : okT cX8_drop 4 8 false t_X8_drop = true := okT_cut 20 kt_X8_drop_0 (kt_X8_drop_1)
set_option maxRecDepth 100000 in
theorem k0_X8_drop : okM0 md_X8_drop = true := by decide +kernel
theorem ok_X8_drop : okMD md_X8_drop = true := okMD_of k0_X8_drop kt_X8_drop
set_option maxRecDepth 100000 in
theorem kt_X8_parent : okT cX8_parent 2 8 false t_X8_parent = true := by decide +kernel
set_option maxRecDepth 100000 in
theorem k0_X8_parent : okM0 md_X8_parent = true := by decide +kernel
theorem ok_X8_parent : okMD md_X8_parent = true := okMD_of k0_X8_parent kt_X8_parent
set_option maxRecDepth 100000 in
theorem kt_X8_adopt_0 : okT cX8_adopt 4 8 false (t_X8_adopt.take 20) = true := by decide +kernel
set_option maxRecDepth 100000 in
theorem kt_X8_adopt_1 : okT cX8_adopt 4 8 false ((t_X8_adopt.drop 20).take 20) = true := by decide +kernel
set_option maxRecDepth 100000 in
theorem kt_X8_adopt_2 : okT cX8_adopt 4 8 false ((t_X8_adopt.drop 20).drop 20) = true := by decide +kernel
theorem kt_X8_adopt : okT cX8_adopt 4 8 false t_X8_adopt = true := okT_cut 20 kt_X8_adopt_0 (okT_cut 20 kt_X8_adopt_1 (kt_X8_adopt_2))
set_option maxRecDepth 100000 in
theorem k0_X8_adopt : okM0 md_X8_adopt = true := by decide +kernel
theorem ok_X8_adopt : okMD md_X8_adopt = true := okMD_of k0_X8_adopt kt_X8_adopt
set_option maxRecDepth 100000 in
theorem kt_X8_proto : okT cX8_proto 2 8 false t_X8_proto = true := by decide +kernel
set_option maxRecDepth 100000 in
theorem k0_X8_proto : okM0 md_X8_proto = true := by decide +kernel
theorem ok_X8_proto : okMD md_X8_proto = true := okMD_of k0_X8_proto kt_X8_proto
set_option maxRecDepth 100000 in
theorem kt_X8_send_0 : okT cX8_send 8 8 false (t_X8_send.take 20) = true := by decide +kernel
set_option maxRecDepth 100000 in
theorem kt_X8_send_1 : okT cX8_send 8 8 false ((t_X8_send.drop 20).take 20) = true := by decide +kernel
set_option maxRecDepth 100000 in
theorem kt_X8_send_2 : okT cX8_send 8 8 false ((t_X8_send.drop 20).drop 20) = true := by decide +kernel
theorem kt_X8_send : okT cX8_send 8 8 false t_X8_send = true := okT_cut 20 kt_X8_send_0 (okT_cut 20 kt_X8_send_1 (kt_X8_send_2))
set_option maxRecDepth 100000 in
theorem k0_X8_send : okM0 md_X8_send = true := by decide +kernel
theorem ok_X8_send : okMD md_X8_send = true := okMD_of k0_X8_send kt_X8_send
set_option maxRecDepth 100000 in
theorem kt_X8_call_0 : okT cX8_call 6 8 false (t_X8_call.take 20) = true := by decide +kernel
set_option maxRecDepth 100000 in
theorem kt_X8_call_1 : okT cX8_call 6 8 false ((t_X8_call.drop 20).take 20) = true := by decide +kernel
set_option maxRecDepth 100000 in
theorem kt_X8_call_2 : okT cX8_call 6 8 false ((t_X8_call.drop 20).drop 20) = true := by decide +kernel
theorem kt_X8_call : okT cX8_call 6 8 false t_X8_call = true := okT_cut 20 kt_X8_call_0 (okT_cut 20 kt_X8_call_1 (kt_X8_call_2))
set_option maxRecDepth 100000 in
theorem k0_X8_call : okM0 md_X8_call = true := by decide +kernel
theorem ok_X8_call : okMD md_X8_call = true := okMD_of k0_X8_call kt_X8_call
set_option maxRecDepth 100000 in
theorem kt_X8_answer : okT cX8_answer 4 8 false t_X8_answer = true := by decide +kernel
set_option maxRecDepth 100000 in
theorem k0_X8_answer : okM0 md_X8_answer = true := by decide +kernel
theorem ok_X8_answer : okMD md_X8_answer = true := okMD_of k0_X8_answer kt_X8_answer
set_option maxRecDepth 100000 in
theorem kt_X8_chainOf : okT cX8_chainOf 4 8 false t_X8_chainOf = true := by decide +kernel
set_option maxRecDepth 100000 in
theorem k0_X8_chainOf : okM0 md_X8_chainOf = true := by decide +kernel
theorem ok_X8_chainOf : okMD md_X8_chainOf = true := okMD_of k0_X8_chainOf kt_X8_chainOf
set_option maxRecDepth 100000 in
theorem kt_X8_finder : okT cX8_finder 3 8 false t_X8_finder = true := by decide +kernel
set_option maxRecDepth 100000 in
theorem k0_X8_finder : okM0 md_X8_finder = true := by decide +kernel
theorem ok_X8_finder : okMD md_X8_finder = true := okMD_of k0_X8_finder kt_X8_finder
set_option maxRecDepth 100000 in
theorem kt_X8_remember_0 : okT cX8_remember 7 8 false (t_X8_remember.take 20) = true := by decide +kernel
set_option maxRecDepth 100000 in
theorem kt_X8_remember_1 : okT cX8_remember 7 8 false ((t_X8_remember.drop 20).take 20) = true := by decide +kernel
set_option maxRecDepth 100000 in
theorem kt_X8_remember_2 : okT cX8_remember 7 8 false ((t_X8_remember.drop 20).drop 20) = true := by decide +kernel
theorem kt_X8_remember : okT cX8_remember 7 8 false t_X8_remember = true := okT_cut 20 kt_X8_remember_0 (okT_cut 20 kt_X8_remember_1 (kt_X8_remember_2))
set_option maxRecDepth 100000 in
theorem k0_X8_remember : okM0 md_X8_remember = true := by decide +kernel
theorem ok_X8_remember : okMD md_X8_remember = true := okMD_of k0_X8_remember kt_X8_remember
set_option maxRecDepth 100000 in
theorem kt_X8_isUnchanged : okT cX8_isUnchanged 3 8 false t_X8_isUnchanged = true := by decide +kernel
set_option maxRecDepth 100000 in
theorem k0_X8_isUnchanged : okM0 md_X8_isUnchanged = true := by decide +kernel
theorem ok_X8_isUnchanged : okMD md_X8_isUnchanged = true := okMD_of k0_X8_isUnchanged kt_X8_isUnchanged
set_option maxRecDepth 100000 in
theorem kt_X8_nearest : okT cX8_nearest 3 8 false t_X8_nearest = true := by decide +kernel
set_option maxRecDepth 100000 in
theorem k0_X8_nearest : okM0 md_X8_nearest = true := by decide +kernel
theorem ok_X8_nearest : okMD md_X8_nearest = true := okMD_of k0_X8_nearest kt_X8_nearest
set_option maxRecDepth 100000 in
theorem kt_X8_serialOf : okT cX8_serialOf 1 8 false t_X8_serialOf = true := by decide +kernel
set_option maxRecDepth 100000 in
theorem k0_X8_serialOf : okM0 md_X8_serialOf = true := by decide +kernel
theorem ok_X8_serialOf : okMD md_X8_serialOf = true := okMD_of k0_X8_serialOf kt_X8_serialOf
set_option maxRecDepth 100000 in
theorem kt_X8_pack : okT cX8_pack 2 8 false t_X8_pack = true := by decide +kernel
set_option maxRecDepth 100000 in
theorem k0_X8_pack : okM0 md_X8_pack = true := by decide +kernel
theorem ok_X8_pack : okMD md_X8_pack = true := okMD_of k0_X8_pack kt_X8_pack
set_option maxRecDepth 100000 in
theorem kt_X8_valueOfThing : okT cX8_valueOfThing 1 8 false t_X8_valueOfThing = true := by decide +kernel
set_option maxRecDepth 100000 in
theorem k0_X8_valueOfThing : okM0 md_X8_valueOfThing = true := by decide +kernel
theorem ok_X8_valueOfThing : okMD md_X8_valueOfThing = true := okMD_of k0_X8_valueOfThing kt_X8_valueOfThing
set_option maxRecDepth 100000 in
theorem kt_X8_truth : okT cX8_truth 1 8 false t_X8_truth = true := by decide +kernel
set_option maxRecDepth 100000 in
theorem k0_X8_truth : okM0 md_X8_truth = true := by decide +kernel
theorem ok_X8_truth : okMD md_X8_truth = true := okMD_of k0_X8_truth kt_X8_truth
set_option maxRecDepth 100000 in
theorem kt_X8_kindOf : okT cX8_kindOf 2 8 false t_X8_kindOf = true := by decide +kernel
set_option maxRecDepth 100000 in
theorem k0_X8_kindOf : okM0 md_X8_kindOf = true := by decide +kernel
theorem ok_X8_kindOf : okMD md_X8_kindOf = true := okMD_of k0_X8_kindOf kt_X8_kindOf
set_option maxRecDepth 100000 in
theorem kt_X8_numberOf : okT cX8_numberOf 2 8 false t_X8_numberOf = true := by decide +kernel
set_option maxRecDepth 100000 in
theorem k0_X8_numberOf : okM0 md_X8_numberOf = true := by decide +kernel
theorem ok_X8_numberOf : okMD md_X8_numberOf = true := okMD_of k0_X8_numberOf kt_X8_numberOf
set_option maxRecDepth 100000 in
theorem kt_X8_isFalse : okT cX8_isFalse 2 8 false t_X8_isFalse = true := by decide +kernel
set_option maxRecDepth 100000 in
theorem k0_X8_isFalse : okM0 md_X8_isFalse = true := by decide +kernel
theorem ok_X8_isFalse : okMD md_X8_isFalse = true := okMD_of k0_X8_isFalse kt_X8_isFalse
set_option maxRecDepth 100000 in
theorem kt_X8_isAmong : okT cX8_isAmong 3 8 false t_X8_isAmong = true := by decide +kernel
set_option maxRecDepth 100000 in
theorem k0_X8_isAmong : okM0 md_X8_isAmong = true := by decide +kernel
theorem ok_X8_isAmong : okMD md_X8_isAmong = true := okMD_of k0_X8_isAmong kt_X8_isAmong
set_option maxRecDepth 100000 in
theorem kt_X8_told : okT cX8_told 3 8 false t_X8_told = true := by decide +kernel
set_option maxRecDepth 100000 in
theorem k0_X8_told : okM0 md_X8_told = true := by decide +kernel
theorem ok_X8_told : okMD md_X8_told = true := okMD_of k0_X8_told kt_X8_told
set_option maxRecDepth 100000 in
theorem kt_X9_init_0 : okT cX9_init 3 9 true (t_X9_init.take 20) = true := by decide +kernel
set_option maxRecDepth 100000 in
theorem kt_X9_init_1 : okT cX9_init 3 9 true ((t_X9_init.drop 20).take 20) = true := by decide +kernel
set_option maxRecDepth 100000 in
theorem kt_X9_init_2 : okT cX9_init 3 9 true (((t_X9_init.drop 20).drop 20).take 20) = true := by decide +kernel
set_option maxRecDepth 100000 in
theorem kt_X9_init_3 : okT cX9_init 3 9 true ((((t_X9_init.drop 20).drop 20).drop 20).take 20) = true := by decide +kernel
set_option maxRecDepth 100000 in
theorem kt_X9_init_4 : okT cX9_init 3 9 true (((((t_X9_init.drop 20).drop 20).drop 20).drop 20).take 20) = true := by decide +kernel
set_option maxRecDepth 100000 in
theorem kt_X9_init_5 : okT cX9_init 3 9 true ((((((t_X9_init.drop 20).drop 20).drop 20).drop 20).drop 20).take 20) = true := by decide +kernel
set_option maxRecDepth 100000 in
theorem kt_X9_init_6 : okT cX9_init 3 9 true (((((((t_X9_init.drop 20).drop 20).drop 20).drop 20).drop 20).drop 20).take 20) = true := by decide +kernel
set_option maxRecDepth 100000 in
theorem kt_X9_init_7 : okT cX9_init 3 9 true ((((((((t_X9_init.drop 20).drop 20).drop 20).drop 20).drop 20).drop 20).drop 20).take 20) = true := by decide +kernel
set_option maxRecDepth 100000 in
theorem kt_X9_init_8 : okT cX9_init 3 9 true ((((((((t_X9_init.drop 20).drop 20).drop 20).drop 20).drop 20).drop 20).drop 20).drop 20) = true := by decide +kernel
theorem kt_X9_init : okT cX9_init 3 9 true t_X9_init = true := okT_cut 20 kt_X9_init_0 (okT_cut 20 kt_X9_init_1 (okT_cut 20 kt_X9_init_2 (okT_cut 20 kt_X9_init_3 (okT_cut 20 kt_X9_init_4 (okT_cut 20 kt_X9_init_5 (okT_cut 20 kt_X9_init_6 (okT_cut 20 kt_X9_init_7 (kt_X9_init_8))))))))
set_option maxRecDepth 100000 in
theorem k0_X9_init : okM0 md_X9_init = true := by decide +kernel
theorem ok_X9_init : okMD md_X9_init = true := okMD_of k0_X9_init kt_X9_init
set_option maxRecDepth 100000 in
theorem kt_X9_clear_0 : okT cX9_clear 2 9 false (t_X9_clear.take 20) = true := by decide +kernel
set_option maxRecDepth 100000 in
theorem kt_X9_clear_1 : okT cX9_clear 2 9 false ((t_X9_clear.drop 20).take 20) = true := by decide +kernel
set_option maxRecDepth 100000 in
theorem kt_X9_clear_2 : okT cX9_clear 2 9 false (((t_X9_clear.drop 20).drop 20).take 20) = true := by decide +kernel
set_option maxRecDepth 100000 in
theorem kt_X9_clear_3 : okT cX9_clear 2 9 false ((((t_X9_clear.drop 20).drop 20).drop 20).take 20) = true := by decide +kernel
set_option maxRecDepth 100000 in
theorem kt_X9_clear_4 : okT cX9_clear 2 9 false (((((t_X9_clear.drop 20).drop 20).drop 20).drop 20).take 20) = true := by decide +kernel
set_option maxRecDepth 100000 in
theorem kt_X9_clear_5 : okT cX9_clear 2 9 false ((((((t_X9_clear.drop 20).drop 20).drop 20).drop 20).drop 20).take 20) = true := by decide +kernel
set_option maxRecDepth 100000 in
theorem kt_X9_clear_6 : okT cX9_clear 2 9 false ((((((t_X9_clear.drop 20).drop 20).drop 20).drop 20).drop 20).drop 20) = true := by decide +kernel
theorem kt_X9_clear : okT cX9_clear 2 9 false t_X9_clear = true := okT_cut 20 kt_X9_clear_0 (okT_cut 20 kt_X9_clear_1 (okT_cut 20 kt_X9_clear_2 (okT_cut 20 kt_X9_clear_3 (okT_cut 20 kt_X9_clear_4 (okT_cut 20 kt_X9_clear_5 (kt_X9_clear_6))))))
set_option maxRecDepth 100000 in
theorem k0_X9_clear : okM0 md_X9_clear = true := by decide +kernel
theorem ok_X9_clear : okMD md_X9_clear = true := okMD_of k0_X9_clear kt_X9_clear
end
section
set_option maxRecDepth 100000 in
theorem kt_X9_asm_0 : okT cX9_asm 4 9 false (t_X9_asm.take 20) = true := by decide +kernel
set_option maxRecDepth 100000 in
theorem kt_X9_asm_1 : okT cX9_asm 4 9 false (t_X9_asm.drop 20) = true := by decide +kernel
theorem kt_X9_asm : okT cX9_asm 4 9 false t_X9_asm = true := okT_cut 20 kt_X9_asm_0 (kt_X9_asm_1)
set_option maxRecDepth 100000 in
theorem k0_X9_asm : okM0 md_X9_asm = true := by decide +kernel
theorem ok_X9_asm : okMD md_X9_asm = true := okMD_of k0_X9_asm kt_X9_asm
set_option maxRecDepth 100000 in
theorem kt_X9_wipe : okT cX9_wipe 2 9 false t_X9_wipe = true := by decide +kernel
set_option maxRecDepth 100000 in
theorem k0_X9_wipe : okM0 md_X9_wipe = true := by decide +kernel
theorem ok_X9_wipe : okMD md_X9_wipe = true := okMD_of k0_X9_wipe kt_X9_wipe
set_option maxRecDepth 100000 in
theorem kt_X9_isIn : okT cX9_isIn 3 9 false t_X9_isIn = true := by decide +kernel
set_option maxRecDepth 100000 in
theorem k0_X9_isIn : okM0 md_X9_isIn = true := by decide +kernel
theorem ok_X9_isIn : okMD md_X9_isIn = true := okMD_of k0_X9_isIn kt_X9_isIn
set_option maxRecDepth 100000 in
theorem kt_X9_aFits_0 : okT cX9_aFits 2 9 false (t_X9_aFits.take 20) = true := by decide +kernel
set_option maxRecDepth 100000 in
theorem kt_X9_aFits_1 : okT cX9_aFits 2 9 false (t_X9_aFits.drop 20) = true := by decide +kernel
theorem kt_X9_aFits : okT cX9_aFits 2 9 false t_X9_aFits = true := okT_cut 20 kt_X9_aFits_0 (kt_X9_aFits_1)
set_option maxRecDepth 100000 in
theorem k0_X9_aFits : okM0 md_X9_aFits = true := by decide +kernel
theorem ok_X9_aFits : okMD md_X9_aFits = true := okMD_of k0_X9_aFits kt_X9_aFits
set_option maxRecDepth 100000 in
theorem kt_X9_bFits_0 : okT cX9_bFits 3 9 false (t_X9_bFits.take 20) = true := by decide +kernel
set_option maxRecDepth 100000 in
theorem kt_X9_bFits_1 : okT cX9_bFits 3 9 false (t_X9_bFits.drop 20) = true := by decide +kernel
theorem kt_X9_bFits : okT cX9_bFits 3 9 false t_X9_bFits = true := okT_cut 20 kt_X9_bFits_0 (kt_X9_bFits_1)
set_option maxRecDepth 100000 in
theorem k0_X9_bFits : okM0 md_X9_bFits = true := by decide +kernel
theorem ok_X9_bFits : okMD md_X9_bFits = true := okMD_of k0_X9_bFits kt_X9_bFits
set_option maxRecDepth 100000 in
theorem kt_X9_namesLabel : okT cX9_namesLabel 1 9 false t_X9_namesLabel = true := by decide +kernel
set_option maxRecDepth 100000 in
theorem k0_X9_namesLabel : okM0 md_X9_namesLabel = true := by decide +kernel
theorem ok_X9_namesLabel : okMD md_X9_namesLabel = true := okMD_of k0_X9_namesLabel kt_X9_namesLabel
set_option maxRecDepth 100000 in
theorem kt_X9_faultOf_0 : okT cX9_faultOf 2 9 false (t_X9_faultOf.take 20) = true := by decide +kernel
set_option maxRecDepth 100000 in
theorem kt_X9_faultOf_1 : okT cX9_faultOf 2 9 false ((t_X9_faultOf.drop 20).take 20) = true := by decide +kernel
set_option maxRecDepth 100000 in
theorem kt_X9_faultOf_2 : okT cX9_faultOf 2 9 false (((t_X9_faultOf.drop 20).drop 20).take 20) = true := by decide +kernel
set_option maxRecDepth 100000 in
theorem kt_X9_faultOf_3 : okT cX9_faultOf 2 9 false (((t_X9_faultOf.drop 20).drop 20).drop 20) = true := by decide +kernel
theorem kt_X9_faultOf : okT cX9_faultOf 2 9 false t_X9_faultOf = true := okT_cut 20 kt_X9_faultOf_0 (okT_cut 20 kt_X9_faultOf_1 (okT_cut 20 kt_X9_faultOf_2 (kt_X9_faultOf_3)))
set_option maxRecDepth 100000 in
theorem k0_X9_faultOf : okM0 md_X9_faultOf = true := by decide +kernel
theorem ok_X9_faultOf : okMD md_X9_faultOf = true := okMD_of k0_X9_faultOf kt_X9_faultOf
set_option maxRecDepth 100000 in
theorem kt_X9_link_0 : okT cX9_link 2 9 false (t_X9_link.take 20) = true := by decide +kernel
set_option maxRecDepth 100000 in
theorem kt_X9_link_1 : okT cX9_link 2 9 false ((t_X9_link.drop 20).take 20) = true := by decide +kernel
set_option maxRecDepth 100000 in
theorem kt_X9_link_2 : okT cX9_link 2 9 false (((t_X9_link.drop 20).drop 20).take 20) = true := by decide +kernel
set_option maxRecDepth 100000 in
theorem kt_X9_link_3 : okT cX9_link 2 9 false ((((t_X9_link.drop 20).drop 20).drop 20).take 20) = true := by decide +kernel
set_option maxRecDepth 100000 in
theorem kt_X9_link_4 : okT cX9_link 2 9 false ((((t_X9_link.drop 20).drop 20).drop 20).drop 20) = true := by decide +kernel
theorem kt_X9_link : okT cX9_link 2 9 false t_X9_link = true := okT_cut 20 kt_X9_link_0 (okT_cut 20 kt_X9_link_1 (okT_cut 20 kt_X9_link_2 (okT_cut 20 kt_X9_link_3 (kt_X9_link_4))))
set_option maxRecDepth 100000 in
theorem k0_X9_link : okM0 md_X9_link = true := by decide +kernel
theorem ok_X9_link : okMD md_X9_link = true := okMD_of k0_X9_link kt_X9_link
set_option maxRecDepth 100000 in
theorem kt_X9_fault : okT cX9_fault 1 9 false t_X9_fault = true := by decide +kernel
set_option maxRecDepth 100000 in
theorem k0_X9_fault : okM0 md_X9_fault = true := by decide +kernel
theorem ok_X9_fault : okMD md_X9_fault = true := okMD_of k0_X9_fault kt_X9_fault
set_option maxRecDepth 100000 in
theorem kt_X9_sizeOf : okT cX9_sizeOf 2 9 false t_X9_sizeOf = true := by decide +kernel
set_option maxRecDepth 100000 in
theorem k0_X9_sizeOf : okM0 md_X9_sizeOf = true := by decide +kernel
theorem ok_X9_sizeOf : okMD md_X9_sizeOf = true := okMD_of k0_X9_sizeOf kt_X9_sizeOf
set_option maxRecDepth 100000 in
theorem kt_X9_mark_0 : okT cX9_mark 3 9 false (t_X9_mark.take 20) = true := by decide +kernel
set_option maxRecDepth 100000 in
theorem kt_X9_mark_1 : okT cX9_mark 3 9 false (t_X9_mark.drop 20) = true := by decide +kernel
theorem kt_X9_mark : okT cX9_mark 3 9 false t_X9_mark = true := okT_cut 20 kt_X9_mark_0 (kt_X9_mark_1)
set_option maxRecDepth 100000 in
theorem k0_X9_mark : okM0 md_X9_mark = true := by decide +kernel
theorem ok_X9_mark : okMD md_X9_mark = true := okMD_of k0_X9_mark kt_X9_mark
set_option maxRecDepth 100000 in
theorem kt_X9_reach_0 : okT cX9_reach 5 9 false (t_X9_reach.take 20) = true := by decide +kernel
set_option maxRecDepth 100000 in
theorem kt_X9_reach_1 : okT cX9_reach 5 9 false ((t_X9_reach.drop 20).take 20) = true := by decide +kernel
set_option maxRecDepth 100000 in
theorem kt_X9_reach_2 : okT cX9_reach 5 9 false (((t_X9_reach.drop 20).drop 20).take 20) = true := by decide +kernel
set_option maxRecDepth 100000 in
theorem kt_X9_reach_3 : okT cX9_reach 5 9 false ((((t_X9_reach.drop 20).drop 20).drop 20).take 20) = true := by decide +kernel
set_option maxRecDepth 100000 in
theorem kt_X9_reach_4 : okT cX9_reach 5 9 false (((((t_X9_reach.drop 20).drop 20).drop 20).drop 20).take 20) = true := by decide +kernel
set_option maxRecDepth 100000 in
theorem kt_X9_reach_5 : okT cX9_reach 5 9 false ((((((t_X9_reach.drop 20).drop 20).drop 20).drop 20).drop 20).take 20) = true := by decide +kernel
set_option maxRecDepth 100000 in
theorem kt_X9_reach_6 : okT cX9_reach 5 9 false (((((((t_X9_reach.drop 20).drop 20).drop 20).drop 20).drop 20).drop 20).take 20) = true := by decide +kernel
set_option maxRecDepth 100000 in
theorem kt_X9_reach_7 : okT cX9_reach 5 9 false ((((((((t_X9_reach.drop 20).drop 20).drop 20).drop 20).drop 20).drop 20).drop 20).take 20) = true := by decide +kernel
set_option maxRecDepth 100000 in
theorem kt_X9_reach_8 : okT cX9_reach 5 9 false (((((((((t_X9_reach.drop 20).drop 20).drop 20).drop 20).drop 20).drop 20).drop 20).drop 20).take 20) = true := by decide +kernel
set_option maxRecDepth 100000 in
theorem kt_X9_reach_9 : okT cX9_reach 5 9 false (((((((((t_X9_reach.drop 20).drop 20).drop 20).drop 20).drop 20).drop 20).drop 20).drop 20).drop 20) = true := by decide +kernel
theorem kt_X9_reach : okT cX9_reach 5 9 false t_X9_reach = true := okT_cut 20 kt_X9_reach_0 (okT_cut 20 kt_X9_reach_1 (okT_cut 20 kt_X9_reach_2 (okT_cut 20 kt_X9_reach_3 (okT_cut 20 kt_X9_reach_4 (okT_cut 20 kt_X9_reach_5 (okT_cut 20 kt_X9_reach_6 (okT_cut 20 kt_X9_reach_7 (okT_cut 20 kt_X9_reach_8 (kt_X9_reach_9)))))))))
set_option maxRecDepth 100000 in
theorem k0_X9_reach : okM0 md_X9_reach = true := by decide +kernel
theorem ok_X9_reach : okMD md_X9_reach = true := okMD_of k0_X9_reach kt_X9_reach
set_option maxRecDepth 100000 in
theorem kt_X9_free_0 : okT cX9_free 2 9 false (t_X9_free.take 20) = true := by decide +kernel
set_option maxRecDepth 100000 in
theorem kt_X9_free_1 : okT cX9_free 2 9 false (t_X9_free.drop 20) = true := by decide +kernel
theorem kt_X9_free : okT cX9_free 2 9 false t_X9_free = true := okT_cut 20 kt_X9_free_0 (kt_X9_free_1)
set_option maxRecDepth 100000 in
theorem k0_X9_free : okM0 md_X9_free = true := by decide +kernel
theorem ok_X9_free : okMD md_X9_free = true := okMD_of k0_X9_free kt_X9_free
set_option maxRecDepth 100000 in
theorem kt_X9_major_0 : okT cX9_major 3 9 false (t_X9_major.take 20) = true := by decide +kernel
set_option maxRecDepth 100000 in
theorem kt_X9_major_1 : okT cX9_major 3 9 false ((t_X9_major.drop 20).take 20) = true := by decide +kernel
set_option maxRecDepth 100000 in
theorem kt_X9_major_2 : okT cX9_major 3 9 false ((t_X9_major.drop 20).drop 20) = true := by decide +kernel
theorem kt_X9_major : okT cX9_major 3 9 false t_X9_major = true := okT_cut 20 kt_X9_major_0 (okT_cut 20 kt_X9_major_1 (kt_X9_major_2))
set_option maxRecDepth 100000 in
theorem k0_X9_major : okM0 md_X9_major = true := by decide +kernel
theorem ok_X9_major : okMD md_X9_major = true := okMD_of k0_X9_major kt_X9_major
set_option maxRecDepth 100000 in
theorem kt_X9_heldCells_0 : okT cX9_heldCells 3 9 false (t_X9_heldCells.take 20) = true := by decide +kernel
set_option maxRecDepth 100000 in
theorem kt_X9_heldCells_1 : okT cX9_heldCells 3 9 false (t_X9_heldCells.drop 20) = true := by decide +kernel
theorem kt_X9_heldCells : okT cX9_heldCells 3 9 false t_X9_heldCells = true := okT_cut 20 kt_X9_heldCells_0 (kt_X9_heldCells_1)
set_option maxRecDepth 100000 in
theorem k0_X9_heldCells : okM0 md_X9_heldCells = true := by decide +kernel
theorem ok_X9_heldCells : okMD md_X9_heldCells = true := okMD_of k0_X9_heldCells kt_X9_heldCells
end
section
set_option maxRecDepth 100000 in
theorem kt_X9_minor_0 : okT cX9_minor 3 9 false (t_X9_minor.take 20) = true := by decide +kernel
set_option maxRecDepth 100000 in
theorem kt_X9_minor_1 : okT cX9_minor 3 9 false ((t_X9_minor.drop 20).take 20) = true := by decide +kernel
set_option maxRecDepth 100000 in
theorem kt_X9_minor_2 : okT cX9_minor 3 9 false (((t_X9_minor.drop 20).drop 20).take 20) = true := by decide +kernel
set_option maxRecDepth 100000 in
theorem kt_X9_minor_3 : okT cX9_minor 3 9 false ((((t_X9_minor.drop 20).drop 20).drop 20).take 20) = true := by decide +kernel
set_option maxRecDepth 100000 in
theorem kt_X9_minor_4 : okT cX9_minor 3 9 false ((((t_X9_minor.drop 20).drop 20).drop 20).drop 20) = true := by decide +kernel
theorem kt_X9_minor : okT cX9_minor 3 9 false t_X9_minor = true := okT_cut 20 kt_X9_minor_0 (okT_cut 20 kt_X9_minor_1 (okT_cut 20 kt_X9_minor_2 (okT_cut 20 kt_X9_minor_3 (kt_X9_minor_4))))
set_option maxRecDepth 100000 in
theorem k0_X9_minor : okM0 md_X9_minor = true := by decide +kernel
theorem ok_X9_minor : okMD md_X9_minor = true := okMD_of k0_X9_minor kt_X9_minor
set_option maxRecDepth 100000 in
theorem kt_X9_greatHas_0 : okT cX9_greatHas 3 9 false (t_X9_greatHas.take 20) = true := by decide +kernel
set_option maxRecDepth 100000 in
theorem kt_X9_greatHas_1 : okT cX9_greatHas 3 9 false (t_X9_greatHas.drop 20) = true := by decide +kernel
theorem kt_X9_greatHas : okT cX9_greatHas 3 9 false t_X9_greatHas = true := okT_cut 20 kt_X9_greatHas_0 (kt_X9_greatHas_1)
set_option maxRecDepth 100000 in
theorem k0_X9_greatHas : okM0 md_X9_greatHas = true := by decide +kernel
theorem ok_X9_greatHas : okMD md_X9_greatHas = true := okMD_of k0_X9_greatHas kt_X9_greatHas
set_option maxRecDepth 100000 in
theorem kt_X9_make_0 : okT cX9_make 4 9 false (t_X9_make.take 20) = true := by decide +kernel
set_option maxRecDepth 100000 in
theorem kt_X9_make_1 : okT cX9_make 4 9 false ((t_X9_make.drop 20).take 20) = true := by decide +kernel
set_option maxRecDepth 100000 in
theorem kt_X9_make_2 : okT cX9_make 4 9 false (((t_X9_make.drop 20).drop 20).take 20) = true := by decide +kernel
set_option maxRecDepth 100000 in
theorem kt_X9_make_3 : okT cX9_make 4 9 false ((((t_X9_make.drop 20).drop 20).drop 20).take 20) = true := by decide +kernel
set_option maxRecDepth 100000 in
theorem kt_X9_make_4 : okT cX9_make 4 9 false ((((t_X9_make.drop 20).drop 20).drop 20).drop 20) = true := by decide +kernel
theorem kt_X9_make : okT cX9_make 4 9 false t_X9_make = true := okT_cut 20 kt_X9_make_0 (okT_cut 20 kt_X9_make_1 (okT_cut 20 kt_X9_make_2 (okT_cut 20 kt_X9_make_3 (kt_X9_make_4))))
set_option maxRecDepth 100000 in
theorem k0_X9_make : okM0 md_X9_make = true := by decide +kernel
theorem ok_X9_make : okMD md_X9_make = true := okMD_of k0_X9_make kt_X9_make
set_option maxRecDepth 100000 in
theorem kt_X9_widen_0 : okT cX9_widen 2 9 false (t_X9_widen.take 20) = true := by decide +kernel
set_option maxRecDepth 100000 in
theorem kt_X9_widen_1 : okT cX9_widen 2 9 false ((t_X9_widen.drop 20).take 20) = true := by decide +kernel
set_option maxRecDepth 100000 in
theorem kt_X9_widen_2 : okT cX9_widen 2 9 false ((t_X9_widen.drop 20).drop 20) = true := by decide +kernel
theorem kt_X9_widen : okT cX9_widen 2 9 false t_X9_widen = true := okT_cut 20 kt_X9_widen_0 (okT_cut 20 kt_X9_widen_1 (kt_X9_widen_2))
set_option maxRecDepth 100000 in
theorem k0_X9_widen : okM0 md_X9_widen = true := by decide +kernel
theorem ok_X9_widen : okMD md_X9_widen = true := okMD_of k0_X9_widen kt_X9_widen
set_option maxRecDepth 100000 in
theorem kt_X9_topKind : okT cX9_topKind 2 9 false t_X9_topKind = true := by decide +kernel
set_option maxRecDepth 100000 in
theorem k0_X9_topKind : okM0 md_X9_topKind = true := by decide +kernel
theorem ok_X9_topKind : okMD md_X9_topKind = true := okMD_of k0_X9_topKind kt_X9_topKind
set_option maxRecDepth 100000 in
theorem kt_X9_topNumber : okT cX9_topNumber 2 9 false t_X9_topNumber = true := by decide +kernel
set_option maxRecDepth 100000 in
theorem k0_X9_topNumber : okM0 md_X9_topNumber = true := by decide +kernel
theorem ok_X9_topNumber : okMD md_X9_topNumber = true := okMD_of k0_X9_topNumber kt_X9_topNumber
set_option maxRecDepth 100000 in
theorem kt_X9_push : okT cX9_push 3 9 false t_X9_push = true := by decide +kernel
set_option maxRecDepth 100000 in
theorem k0_X9_push : okM0 md_X9_push = true := by decide +kernel
theorem ok_X9_push : okMD md_X9_push = true := okMD_of k0_X9_push kt_X9_push
set_option maxRecDepth 100000 in
theorem kt_X9_ends : okT cX9_ends 2 9 false t_X9_ends = true := by decide +kernel
set_option maxRecDepth 100000 in
theorem k0_X9_ends : okM0 md_X9_ends = true := by decide +kernel
theorem ok_X9_ends : okMD md_X9_ends = true := okMD_of k0_X9_ends kt_X9_ends
set_option maxRecDepth 100000 in
theorem kt_X9_well : okT cX9_well 2 9 false t_X9_well = true := by decide +kernel
set_option maxRecDepth 100000 in
theorem k0_X9_well : okM0 md_X9_well = true := by decide +kernel
theorem ok_X9_well : okMD md_X9_well = true := okMD_of k0_X9_well kt_X9_well
set_option maxRecDepth 100000 in
theorem kt_X9_chainOf : okT cX9_chainOf 3 9 false t_X9_chainOf = true := by decide +kernel
set_option maxRecDepth 100000 in
theorem k0_X9_chainOf : okM0 md_X9_chainOf = true := by decide +kernel
theorem ok_X9_chainOf : okMD md_X9_chainOf = true := okMD_of k0_X9_chainOf kt_X9_chainOf
set_option maxRecDepth 100000 in
theorem kt_X9_ownSlot_0 : okT cX9_ownSlot 4 9 false (t_X9_ownSlot.take 20) = true := by decide +kernel
set_option maxRecDepth 100000 in
theorem kt_X9_ownSlot_1 : okT cX9_ownSlot 4 9 false (t_X9_ownSlot.drop 20) = true := by decide +kernel
theorem kt_X9_ownSlot : okT cX9_ownSlot 4 9 false t_X9_ownSlot = true := okT_cut 20 kt_X9_ownSlot_0 (kt_X9_ownSlot_1)
set_option maxRecDepth 100000 in
theorem k0_X9_ownSlot : okM0 md_X9_ownSlot = true := by decide +kernel
theorem ok_X9_ownSlot : okMD md_X9_ownSlot = true := okMD_of k0_X9_ownSlot kt_X9_ownSlot
set_option maxRecDepth 100000 in
theorem kt_X9_find_0 : okT cX9_find 6 9 false (t_X9_find.take 20) = true := by decide +kernel
set_option maxRecDepth 100000 in
theorem kt_X9_find_1 : okT cX9_find 6 9 false (t_X9_find.drop 20) = true := by decide +kernel
theorem kt_X9_find : okT cX9_find 6 9 false t_X9_find = true := okT_cut 20 kt_X9_find_0 (kt_X9_find_1)
set_option maxRecDepth 100000 in
theorem k0_X9_find : okM0 md_X9_find = true := by decide +kernel
theorem ok_X9_find : okMD md_X9_find = true := okMD_of k0_X9_find kt_X9_find
set_option maxRecDepth 100000 in
theorem kt_X9_touch : okT cX9_touch 2 9 false t_X9_touch = true := by decide +kernel
set_option maxRecDepth 100000 in
theorem k0_X9_touch : okM0 md_X9_touch = true := by decide +kernel
theorem ok_X9_touch : okMD md_X9_touch = true := okMD_of k0_X9_touch kt_X9_touch
set_option maxRecDepth 100000 in
theorem kt_X9_serialAt : okT cX9_serialAt 2 9 false t_X9_serialAt = true := by decide +kernel
set_option maxRecDepth 100000 in
theorem k0_X9_serialAt : okM0 md_X9_serialAt = true := by decide +kernel
theorem ok_X9_serialAt : okMD md_X9_serialAt = true := okMD_of k0_X9_serialAt kt_X9_serialAt
set_option maxRecDepth 100000 in
theorem kt_X9_remembers_0 : okT cX9_remembers 6 9 false (t_X9_remembers.take 20) = true := by decide +kernel
set_option maxRecDepth 100000 in
theorem kt_X9_remembers_1 : okT cX9_remembers 6 9 false ((t_X9_remembers.drop 20).take 20) = true := by decide +kernel
set_option maxRecDepth 100000 in
theorem kt_X9_remembers_2 : okT cX9_remembers 6 9 false (((t_X9_remembers.drop 20).drop 20).take 20) = true := by decide +kernel
set_option maxRecDepth 100000 in
theorem kt_X9_remembers_3 : okT cX9_remembers 6 9 false ((((t_X9_remembers.drop 20).drop 20).drop 20).take 20) = true := by decide +kernel
set_option maxRecDepth 100000 in
theorem kt_X9_remembers_4 : okT cX9_remembers 6 9 false ((((t_X9_remembers.drop 20).drop 20).drop 20).drop 20) = true := by decide +kernel
theorem kt_X9_remembers : okT cX9_remembers 6 9 false t_X9_remembers = true := okT_cut 20 kt_X9_remembers_0 (okT_cut 20 kt_X9_remembers_1 (okT_cut 20 kt_X9_remembers_2 (okT_cut 20 kt_X9_remembers_3 (kt_X9_remembers_4))))
set_option maxRecDepth 100000 in
theorem k0_X9_remembers : okM0 md_X9_remembers = true := by decide +kernel
theorem ok_X9_remembers : okMD md_X9_remembers = true := okMD_of k0_X9_remembers kt_X9_remembers
set_option maxRecDepth 100000 in
theorem kt_X9_isCalm_0 : okT cX9_isCalm 5 9 false (t_X9_isCalm.take 20) = true := by decide +kernel
set_option maxRecDepth 100000 in
theorem kt_X9_isCalm_1 : okT cX9_isCalm 5 9 false (t_X9_isCalm.drop 20) = true := by decide +kernel
theorem kt_X9_isCalm : okT cX9_isCalm 5 9 false t_X9_isCalm = true := okT_cut 20 kt_X9_isCalm_0 (kt_X9_isCalm_1)
set_option maxRecDepth 100000 in
theorem k0_X9_isCalm : okM0 md_X9_isCalm = true := by decide +kernel
theorem ok_X9_isCalm : okMD md_X9_isCalm = true := okMD_of k0_X9_isCalm kt_X9_isCalm
set_option maxRecDepth 100000 in
theorem kt_X9_meet_0 : okT cX9_meet 5 9 false (t_X9_meet.take 20) = true := by decide +kernel
set_option maxRecDepth 100000 in
theorem kt_X9_meet_1 : okT cX9_meet 5 9 false ((t_X9_meet.drop 20).take 20) = true := by decide +kernel
set_option maxRecDepth 100000 in
theorem kt_X9_meet_2 : okT cX9_meet 5 9 false (((t_X9_meet.drop 20).drop 20).take 20) = true := by decide +kernel
set_option maxRecDepth 100000 in
theorem kt_X9_meet_3 : okT cX9_meet 5 9 false ((((t_X9_meet.drop 20).drop 20).drop 20).take 20) = true := by decide +kernel
set_option maxRecDepth 100000 in
theorem kt_X9_meet_4 : okT cX9_meet 5 9 false ((((t_X9_meet.drop 20).drop 20).drop 20).drop 20) = true := by decide +kernel
theorem kt_X9_meet : okT cX9_meet 5 9 false t_X9_meet = true := okT_cut 20 kt_X9_meet_0 (okT_cut 20 kt_X9_meet_1 (okT_cut 20 kt_X9_meet_2 (okT_cut 20 kt_X9_meet_3 (kt_X9_meet_4))))
set_option maxRecDepth 100000 in
theorem k0_X9_meet : okM0 md_X9_meet = true := by decide +kernel
theorem ok_X9_meet : okMD md_X9_meet = true := okMD_of k0_X9_meet kt_X9_meet
set_option maxRecDepth 100000 in
theorem kt_X9_wants : okT cX9_wants 2 9 false t_X9_wants = true := by decide +kernel
set_option maxRecDepth 100000 in
theorem k0_X9_wants : okM0 md_X9_wants = true := by decide +kernel
theorem ok_X9_wants : okMD md_X9_wants = true := okMD_of k0_X9_wants kt_X9_wants
set_option maxRecDepth 100000 in
theorem kt_X9_put : okT cX9_put 3 9 false t_X9_put = true := by decide +kernel
set_option maxRecDepth 100000 in
theorem k0_X9_put : okM0 md_X9_put = true := by decide +kernel
theorem ok_X9_put : okMD md_X9_put = true := okMD_of k0_X9_put kt_X9_put
end
section
set_option maxRecDepth 100000 in
theorem kt_X9_reckon_0 : okT cX9_reckon 8 9 false (t_X9_reckon.take 20) = true := by decide +kernel
set_option maxRecDepth 100000 in
theorem kt_X9_reckon_1 : okT cX9_reckon 8 9 false ((t_X9_reckon.drop 20).take 20) = true := by decide +kernel
set_option maxRecDepth 100000 in
theorem kt_X9_reckon_2 : okT cX9_reckon 8 9 false (((t_X9_reckon.drop 20).drop 20).take 20) = true := by decide +kernel
set_option maxRecDepth 100000 in
theorem kt_X9_reckon_3 : okT cX9_reckon 8 9 false ((((t_X9_reckon.drop 20).drop 20).drop 20).take 20) = true := by decide +kernel
set_option maxRecDepth 100000 in
theorem kt_X9_reckon_4 : okT cX9_reckon 8 9 false (((((t_X9_reckon.drop 20).drop 20).drop 20).drop 20).take 20) = true := by decide +kernel
set_option maxRecDepth 100000 in
theorem kt_X9_reckon_5 : okT cX9_reckon 8 9 false (((((t_X9_reckon.drop 20).drop 20).drop 20).drop 20).drop 20) = true := by decide +kernel
theorem kt_X9_reckon : okT cX9_reckon 8 9 false t_X9_reckon = true := okT_cut 20 kt_X9_reckon_0 (okT_cut 20 kt_X9_reckon_1 (okT_cut 20 kt_X9_reckon_2 (okT_cut 20 kt_X9_reckon_3 (okT_cut 20 kt_X9_reckon_4 (kt_X9_reckon_5)))))
set_option maxRecDepth 100000 in
theorem k0_X9_reckon : okM0 md_X9_reckon = true := by decide +kernel
theorem ok_X9_reckon : okMD md_X9_reckon = true := okMD_of k0_X9_reckon kt_X9_reckon
set_option maxRecDepth 100000 in
theorem kt_X9_fresh_0 : okT cX9_fresh 2 9 false (t_X9_fresh.take 20) = true := by decide +kernel
set_option maxRecDepth 100000 in
theorem kt_X9_fresh_1 : okT cX9_fresh 2 9 false ((t_X9_fresh.drop 20).take 20) = true := by decide +kernel
set_option maxRecDepth 100000 in
theorem kt_X9_fresh_2 : okT cX9_fresh 2 9 false ((t_X9_fresh.drop 20).drop 20) = true := by decide +kernel
theorem kt_X9_fresh : okT cX9_fresh 2 9 false t_X9_fresh = true := okT_cut 20 kt_X9_fresh_0 (okT_cut 20 kt_X9_fresh_1 (kt_X9_fresh_2))
set_option maxRecDepth 100000 in
theorem k0_X9_fresh : okM0 md_X9_fresh = true := by decide +kernel
theorem ok_X9_fresh : okMD md_X9_fresh = true := okMD_of k0_X9_fresh kt_X9_fresh
set_option maxRecDepth 100000 in
theorem kt_X9_copy_0 : okT cX9_copy 4 9 false (t_X9_copy.take 20) = true := by decide +kernel
set_option maxRecDepth 100000 in
theorem kt_X9_copy_1 : okT cX9_copy 4 9 false ((t_X9_copy.drop 20).take 20) = true := by decide +kernel
set_option maxRecDepth 100000 in
theorem kt_X9_copy_2 : okT cX9_copy 4 9 false (((t_X9_copy.drop 20).drop 20).take 20) = true := by decide +kernel
set_option maxRecDepth 100000 in
theorem kt_X9_copy_3 : okT cX9_copy 4 9 false ((((t_X9_copy.drop 20).drop 20).drop 20).take 20) = true := by decide +kernel
set_option maxRecDepth 100000 in
theorem kt_X9_copy_4 : okT cX9_copy 4 9 false (((((t_X9_copy.drop 20).drop 20).drop 20).drop 20).take 20) = true := by decide +kernel
set_option maxRecDepth 100000 in
theorem kt_X9_copy_5 : okT cX9_copy 4 9 false (((((t_X9_copy.drop 20).drop 20).drop 20).drop 20).drop 20) = true := by decide +kernel
theorem kt_X9_copy : okT cX9_copy 4 9 false t_X9_copy = true := okT_cut 20 kt_X9_copy_0 (okT_cut 20 kt_X9_copy_1 (okT_cut 20 kt_X9_copy_2 (okT_cut 20 kt_X9_copy_3 (okT_cut 20 kt_X9_copy_4 (kt_X9_copy_5)))))
set_option maxRecDepth 100000 in
theorem k0_X9_copy : okM0 md_X9_copy = true := by decide +kernel
theorem ok_X9_copy : okMD md_X9_copy = true := okMD_of k0_X9_copy kt_X9_copy
set_option maxRecDepth 100000 in
theorem kt_X9_get_0 : okT cX9_get 3 9 false (t_X9_get.take 20) = true := by decide +kernel
set_option maxRecDepth 100000 in
theorem kt_X9_get_1 : okT cX9_get 3 9 false ((t_X9_get.drop 20).take 20) = true := by decide +kernel
set_option maxRecDepth 100000 in
theorem kt_X9_get_2 : okT cX9_get 3 9 false ((t_X9_get.drop 20).drop 20) = true := by decide +kernel
theorem kt_X9_get : okT cX9_get 3 9 false t_X9_get = true := okT_cut 20 kt_X9_get_0 (okT_cut 20 kt_X9_get_1 (kt_X9_get_2))
set_option maxRecDepth 100000 in
theorem k0_X9_get : okM0 md_X9_get = true := by decide +kernel
theorem ok_X9_get : okMD md_X9_get = true := okMD_of k0_X9_get kt_X9_get
set_option maxRecDepth 100000 in
theorem kt_X9_set_0 : okT cX9_set 4 9 false (t_X9_set.take 20) = true := by decide +kernel
set_option maxRecDepth 100000 in
theorem kt_X9_set_1 : okT cX9_set 4 9 false ((t_X9_set.drop 20).take 20) = true := by decide +kernel
set_option maxRecDepth 100000 in
theorem kt_X9_set_2 : okT cX9_set 4 9 false (((t_X9_set.drop 20).drop 20).take 20) = true := by decide +kernel
set_option maxRecDepth 100000 in
theorem kt_X9_set_3 : okT cX9_set 4 9 false ((((t_X9_set.drop 20).drop 20).drop 20).take 20) = true := by decide +kernel
set_option maxRecDepth 100000 in
theorem kt_X9_set_4 : okT cX9_set 4 9 false ((((t_X9_set.drop 20).drop 20).drop 20).drop 20) = true := by decide +kernel
theorem kt_X9_set : okT cX9_set 4 9 false t_X9_set = true := okT_cut 20 kt_X9_set_0 (okT_cut 20 kt_X9_set_1 (okT_cut 20 kt_X9_set_2 (okT_cut 20 kt_X9_set_3 (kt_X9_set_4))))
set_option maxRecDepth 100000 in
theorem k0_X9_set : okM0 md_X9_set = true := by decide +kernel
theorem ok_X9_set : okMD md_X9_set = true := okMD_of k0_X9_set kt_X9_set
set_option maxRecDepth 100000 in
theorem kt_X9_drop_0 : okT cX9_drop 5 9 false (t_X9_drop.take 20) = true := by decide +kernel
set_option maxRecDepth 100000 in
theorem kt_X9_drop_1 : okT cX9_drop 5 9 false ((t_X9_drop.drop 20).take 20) = true := by decide +kernel
set_option maxRecDepth 100000 in
theorem kt_X9_drop_2 : okT cX9_drop 5 9 false (((t_X9_drop.drop 20).drop 20).take 20) = true := by decide +kernel
set_option maxRecDepth 100000 in
theorem kt_X9_drop_3 : okT cX9_drop 5 9 false ((((t_X9_drop.drop 20).drop 20).drop 20).take 20) = true := by decide +kernel
set_option maxRecDepth 100000 in
theorem kt_X9_drop_4 : okT cX9_drop 5 9 false (((((t_X9_drop.drop 20).drop 20).drop 20).drop 20).take 20) = true := by decide +kernel
set_option maxRecDepth 100000 in
theorem kt_X9_drop_5 : okT cX9_drop 5 9 false (((((t_X9_drop.drop 20).drop 20).drop 20).drop 20).drop 20) = true := by decide +kernel
theorem kt_X9_drop : okT cX9_drop 5 9 false t_X9_drop = true := okT_cut 20 kt_X9_drop_0 (okT_cut 20 kt_X9_drop_1 (okT_cut 20 kt_X9_drop_2 (okT_cut 20 kt_X9_drop_3 (okT_cut 20 kt_X9_drop_4 (kt_X9_drop_5)))))
set_option maxRecDepth 100000 in
theorem k0_X9_drop : okM0 md_X9_drop = true := by decide +kernel
theorem ok_X9_drop : okMD md_X9_drop = true := okMD_of k0_X9_drop kt_X9_drop
set_option maxRecDepth 100000 in
theorem kt_X9_parent_0 : okT cX9_parent 2 9 false (t_X9_parent.take 20) = true := by decide +kernel
set_option maxRecDepth 100000 in
theorem kt_X9_parent_1 : okT cX9_parent 2 9 false ((t_X9_parent.drop 20).take 20) = true := by decide +kernel
set_option maxRecDepth 100000 in
theorem kt_X9_parent_2 : okT cX9_parent 2 9 false ((t_X9_parent.drop 20).drop 20) = true := by decide +kernel
theorem kt_X9_parent : okT cX9_parent 2 9 false t_X9_parent = true := okT_cut 20 kt_X9_parent_0 (okT_cut 20 kt_X9_parent_1 (kt_X9_parent_2))
set_option maxRecDepth 100000 in
theorem k0_X9_parent : okM0 md_X9_parent = true := by decide +kernel
theorem ok_X9_parent : okMD md_X9_parent = true := okMD_of k0_X9_parent kt_X9_parent
set_option maxRecDepth 100000 in
theorem kt_X9_adopt_0 : okT cX9_adopt 4 9 false (t_X9_adopt.take 20) = true := by decide +kernel
set_option maxRecDepth 100000 in
theorem kt_X9_adopt_1 : okT cX9_adopt 4 9 false ((t_X9_adopt.drop 20).take 20) = true := by decide +kernel
set_option maxRecDepth 100000 in
theorem kt_X9_adopt_2 : okT cX9_adopt 4 9 false (((t_X9_adopt.drop 20).drop 20).take 20) = true := by decide +kernel
set_option maxRecDepth 100000 in
theorem kt_X9_adopt_3 : okT cX9_adopt 4 9 false (((t_X9_adopt.drop 20).drop 20).drop 20) = true := by decide +kernel
theorem kt_X9_adopt : okT cX9_adopt 4 9 false t_X9_adopt = true := okT_cut 20 kt_X9_adopt_0 (okT_cut 20 kt_X9_adopt_1 (okT_cut 20 kt_X9_adopt_2 (kt_X9_adopt_3)))
set_option maxRecDepth 100000 in
theorem k0_X9_adopt : okM0 md_X9_adopt = true := by decide +kernel
theorem ok_X9_adopt : okMD md_X9_adopt = true := okMD_of k0_X9_adopt kt_X9_adopt
set_option maxRecDepth 100000 in
theorem kt_X9_proto_0 : okT cX9_proto 2 9 false (t_X9_proto.take 20) = true := by decide +kernel
set_option maxRecDepth 100000 in
theorem kt_X9_proto_1 : okT cX9_proto 2 9 false (t_X9_proto.drop 20) = true := by decide +kernel
theorem kt_X9_proto : okT cX9_proto 2 9 false t_X9_proto = true := okT_cut 20 kt_X9_proto_0 (kt_X9_proto_1)
set_option maxRecDepth 100000 in
theorem k0_X9_proto : okM0 md_X9_proto = true := by decide +kernel
theorem ok_X9_proto : okMD md_X9_proto = true := okMD_of k0_X9_proto kt_X9_proto
end
section
set_option maxRecDepth 100000 in
theorem kt_X9_send_0 : okT cX9_send 9 9 false (t_X9_send.take 20) = true := by decide +kernel
set_option maxRecDepth 100000 in
theorem kt_X9_send_1 : okT cX9_send 9 9 false ((t_X9_send.drop 20).take 20) = true := by decide +kernel
set_option maxRecDepth 100000 in
theorem kt_X9_send_2 : okT cX9_send 9 9 false (((t_X9_send.drop 20).drop 20).take 20) = true := by decide +kernel
set_option maxRecDepth 100000 in
theorem kt_X9_send_3 : okT cX9_send 9 9 false ((((t_X9_send.drop 20).drop 20).drop 20).take 20) = true := by decide +kernel
set_option maxRecDepth 100000 in
theorem kt_X9_send_4 : okT cX9_send 9 9 false (((((t_X9_send.drop 20).drop 20).drop 20).drop 20).take 20) = true := by decide +kernel
set_option maxRecDepth 100000 in
theorem kt_X9_send_5 : okT cX9_send 9 9 false ((((((t_X9_send.drop 20).drop 20).drop 20).drop 20).drop 20).take 20) = true := by decide +kernel
set_option maxRecDepth 100000 in
theorem kt_X9_send_6 : okT cX9_send 9 9 false (((((((t_X9_send.drop 20).drop 20).drop 20).drop 20).drop 20).drop 20).take 20) = true := by decide +kernel
set_option maxRecDepth 100000 in
theorem kt_X9_send_7 : okT cX9_send 9 9 false ((((((((t_X9_send.drop 20).drop 20).drop 20).drop 20).drop 20).drop 20).drop 20).take 20) = true := by decide +kernel
set_option maxRecDepth 100000 in
theorem kt_X9_send_8 : okT cX9_send 9 9 false (((((((((t_X9_send.drop 20).drop 20).drop 20).drop 20).drop 20).drop 20).drop 20).drop 20).take 20) = true := by decide +kernel
set_option maxRecDepth 100000 in
theorem kt_X9_send_9 : okT cX9_send 9 9 false ((((((((((t_X9_send.drop 20).drop 20).drop 20).drop 20).drop 20).drop 20).drop 20).drop 20).drop 20).take 20) = true := by decide +kernel
set_option maxRecDepth 100000 in
theorem kt_X9_send_10 : okT cX9_send 9 9 false ((((((((((t_X9_send.drop 20).drop 20).drop 20).drop 20).drop 20).drop 20).drop 20).drop 20).drop 20).drop 20) = true := by decide +kernel
theorem kt_X9_send : okT cX9_send 9 9 false t_X9_send = true := okT_cut 20 kt_X9_send_0 (okT_cut 20 kt_X9_send_1 (okT_cut 20 kt_X9_send_2 (okT_cut 20 kt_X9_send_3 (okT_cut 20 kt_X9_send_4 (okT_cut 20 kt_X9_send_5 (okT_cut 20 kt_X9_send_6 (okT_cut 20 kt_X9_send_7 (okT_cut 20 kt_X9_send_8 (okT_cut 20 kt_X9_send_9 (kt_X9_send_10))))))))))
set_option maxRecDepth 100000 in
theorem k0_X9_send : okM0 md_X9_send = true := by decide +kernel
theorem ok_X9_send : okMD md_X9_send = true := okMD_of k0_X9_send kt_X9_send
set_option maxRecDepth 100000 in
theorem kt_X9_giveBack_0 : okT cX9_giveBack 3 9 false (t_X9_giveBack.take 20) = true := by decide +kernel
set_option maxRecDepth 100000 in
theorem kt_X9_giveBack_1 : okT cX9_giveBack 3 9 false ((t_X9_giveBack.drop 20).take 20) = true := by decide +kernel
set_option maxRecDepth 100000 in
theorem kt_X9_giveBack_2 : okT cX9_giveBack 3 9 false ((t_X9_giveBack.drop 20).drop 20) = true := by decide +kernel
theorem kt_X9_giveBack : okT cX9_giveBack 3 9 false t_X9_giveBack = true := okT_cut 20 kt_X9_giveBack_0 (okT_cut 20 kt_X9_giveBack_1 (kt_X9_giveBack_2))
set_option maxRecDepth 100000 in
theorem k0_X9_giveBack : okM0 md_X9_giveBack = true := by decide +kernel
theorem ok_X9_giveBack : okMD md_X9_giveBack = true := okMD_of k0_X9_giveBack kt_X9_giveBack
set_option maxRecDepth 100000 in
theorem kt_X9_print_0 : okT cX9_print 1 9 false (t_X9_print.take 20) = true := by decide +kernel
set_option maxRecDepth 100000 in
theorem kt_X9_print_1 : okT cX9_print 1 9 false ((t_X9_print.drop 20).take 20) = true := by decide +kernel
set_option maxRecDepth 100000 in
theorem kt_X9_print_2 : okT cX9_print 1 9 false ((t_X9_print.drop 20).drop 20) = true := by decide +kernel
theorem kt_X9_print : okT cX9_print 1 9 false t_X9_print = true := okT_cut 20 kt_X9_print_0 (okT_cut 20 kt_X9_print_1 (kt_X9_print_2))
set_option maxRecDepth 100000 in
theorem k0_X9_print : okM0 md_X9_print = true := by decide +kernel
theorem ok_X9_print : okMD md_X9_print = true := okMD_of k0_X9_print kt_X9_print
set_option maxRecDepth 100000 in
theorem kt_X9_local_0 : okT cX9_local 2 9 false (t_X9_local.take 20) = true := by decide +kernel
set_option maxRecDepth 100000 in
theorem kt_X9_local_1 : okT cX9_local 2 9 false (t_X9_local.drop 20) = true := by decide +kernel
theorem kt_X9_local : okT cX9_local 2 9 false t_X9_local = true := okT_cut 20 kt_X9_local_0 (kt_X9_local_1)
set_option maxRecDepth 100000 in
theorem k0_X9_local : okM0 md_X9_local = true := by decide +kernel
theorem ok_X9_local : okMD md_X9_local = true := okMD_of k0_X9_local kt_X9_local
set_option maxRecDepth 100000 in
theorem kt_X9_store_0 : okT cX9_store 2 9 false (t_X9_store.take 20) = true := by decide +kernel
set_option maxRecDepth 100000 in
theorem kt_X9_store_1 : okT cX9_store 2 9 false ((t_X9_store.drop 20).take 20) = true := by decide +kernel
set_option maxRecDepth 100000 in
theorem kt_X9_store_2 : okT cX9_store 2 9 false ((t_X9_store.drop 20).drop 20) = true := by decide +kernel
theorem kt_X9_store : okT cX9_store 2 9 false t_X9_store = true := okT_cut 20 kt_X9_store_0 (okT_cut 20 kt_X9_store_1 (kt_X9_store_2))
set_option maxRecDepth 100000 in
theorem k0_X9_store : okM0 md_X9_store = true := by decide +kernel
theorem ok_X9_store : okMD md_X9_store = true := okMD_of k0_X9_store kt_X9_store
set_option maxRecDepth 100000 in
theorem kt_X9_keep_0 : okT cX9_keep 2 9 false (t_X9_keep.take 20) = true := by decide +kernel
set_option maxRecDepth 100000 in
theorem kt_X9_keep_1 : okT cX9_keep 2 9 false (t_X9_keep.drop 20) = true := by decide +kernel
theorem kt_X9_keep : okT cX9_keep 2 9 false t_X9_keep = true := okT_cut 20 kt_X9_keep_0 (kt_X9_keep_1)
set_option maxRecDepth 100000 in
theorem k0_X9_keep : okM0 md_X9_keep = true := by decide +kernel
theorem ok_X9_keep : okMD md_X9_keep = true := okMD_of k0_X9_keep kt_X9_keep
set_option maxRecDepth 100000 in
theorem kt_X9_isFalse : okT cX9_isFalse 1 9 false t_X9_isFalse = true := by decide +kernel
set_option maxRecDepth 100000 in
theorem k0_X9_isFalse : okM0 md_X9_isFalse = true := by decide +kernel
theorem ok_X9_isFalse : okMD md_X9_isFalse = true := okMD_of k0_X9_isFalse kt_X9_isFalse
set_option maxRecDepth 100000 in
theorem kt_X9_unless_0 : okT cX9_unless 3 9 false (t_X9_unless.take 20) = true := by decide +kernel
set_option maxRecDepth 100000 in
theorem kt_X9_unless_1 : okT cX9_unless 3 9 false (t_X9_unless.drop 20) = true := by decide +kernel
theorem kt_X9_unless : okT cX9_unless 3 9 false t_X9_unless = true := okT_cut 20 kt_X9_unless_0 (kt_X9_unless_1)
set_option maxRecDepth 100000 in
theorem k0_X9_unless : okM0 md_X9_unless = true := by decide +kernel
theorem ok_X9_unless : okMD md_X9_unless = true := okMD_of k0_X9_unless kt_X9_unless
set_option maxRecDepth 100000 in
theorem kt_X9_swap_0 : okT cX9_swap 3 9 false (t_X9_swap.take 20) = true := by decide +kernel
set_option maxRecDepth 100000 in
theorem kt_X9_swap_1 : okT cX9_swap 3 9 false ((t_X9_swap.drop 20).take 20) = true := by decide +kernel
set_option maxRecDepth 100000 in
theorem kt_X9_swap_2 : okT cX9_swap 3 9 false ((t_X9_swap.drop 20).drop 20) = true := by decide +kernel
theorem kt_X9_swap : okT cX9_swap 3 9 false t_X9_swap = true := okT_cut 20 kt_X9_swap_0 (okT_cut 20 kt_X9_swap_1 (kt_X9_swap_2))
set_option maxRecDepth 100000 in
theorem k0_X9_swap : okM0 md_X9_swap = true := by decide +kernel
theorem ok_X9_swap : okMD md_X9_swap = true := okMD_of k0_X9_swap kt_X9_swap
set_option maxRecDepth 100000 in
theorem kt_X9_answer_0 : okT cX9_answer 3 9 false (t_X9_answer.take 20) = true := by decide +kernel
set_option maxRecDepth 100000 in
theorem kt_X9_answer_1 : okT cX9_answer 3 9 false (t_X9_answer.drop 20) = true := by decide +kernel
theorem kt_X9_answer : okT cX9_answer 3 9 false t_X9_answer = true := okT_cut 20 kt_X9_answer_0 (kt_X9_answer_1)
set_option maxRecDepth 100000 in
theorem k0_X9_answer : okM0 md_X9_answer = true := by decide +kernel
theorem ok_X9_answer : okMD md_X9_answer = true := okMD_of k0_X9_answer kt_X9_answer
set_option maxRecDepth 100000 in
theorem kt_X9_simple_0 : okT cX9_simple 3 9 false (t_X9_simple.take 20) = true := by decide +kernel
set_option maxRecDepth 100000 in
theorem kt_X9_simple_1 : okT cX9_simple 3 9 false ((t_X9_simple.drop 20).take 20) = true := by decide +kernel
set_option maxRecDepth 100000 in
theorem kt_X9_simple_2 : okT cX9_simple 3 9 false (((t_X9_simple.drop 20).drop 20).take 20) = true := by decide +kernel
set_option maxRecDepth 100000 in
theorem kt_X9_simple_3 : okT cX9_simple 3 9 false ((((t_X9_simple.drop 20).drop 20).drop 20).take 20) = true := by decide +kernel
set_option maxRecDepth 100000 in
theorem kt_X9_simple_4 : okT cX9_simple 3 9 false ((((t_X9_simple.drop 20).drop 20).drop 20).drop 20) = true := by decide +kernel
theorem kt_X9_simple : okT cX9_simple 3 9 false t_X9_simple = true := okT_cut 20 kt_X9_simple_0 (okT_cut 20 kt_X9_simple_1 (okT_cut 20 kt_X9_simple_2 (okT_cut 20 kt_X9_simple_3 (kt_X9_simple_4))))
set_option maxRecDepth 100000 in
theorem k0_X9_simple : okM0 md_X9_simple = true := by decide +kernel
theorem ok_X9_simple : okMD md_X9_simple = true := okMD_of k0_X9_simple kt_X9_simple
end
section
set_option maxRecDepth 100000 in
theorem kt_X9_oneStep_0 : okT cX9_oneStep 3 9 false (t_X9_oneStep.take 20) = true := by decide +kernel
set_option maxRecDepth 100000 in
theorem kt_X9_oneStep_1 : okT cX9_oneStep 3 9 false ((t_X9_oneStep.drop 20).take 20) = true := by decide +kernel
set_option maxRecDepth 100000 in
theorem kt_X9_oneStep_2 : okT cX9_oneStep 3 9 false (((t_X9_oneStep.drop 20).drop 20).take 20) = true := by decide +kernel
set_option maxRecDepth 100000 in
theorem kt_X9_oneStep_3 : okT cX9_oneStep 3 9 false ((((t_X9_oneStep.drop 20).drop 20).drop 20).take 20) = true := by decide +kernel
set_option maxRecDepth 100000 in
theorem kt_X9_oneStep_4 : okT cX9_oneStep 3 9 false (((((t_X9_oneStep.drop 20).drop 20).drop 20).drop 20).take 20) = true := by decide +kernel
set_option maxRecDepth 100000 in
theorem kt_X9_oneStep_5 : okT cX9_oneStep 3 9 false ((((((t_X9_oneStep.drop 20).drop 20).drop 20).drop 20).drop 20).take 20) = true := by decide +kernel
set_option maxRecDepth 100000 in
theorem kt_X9_oneStep_6 : okT cX9_oneStep 3 9 false (((((((t_X9_oneStep.drop 20).drop 20).drop 20).drop 20).drop 20).drop 20).take 20) = true := by decide +kernel
set_option maxRecDepth 100000 in
theorem kt_X9_oneStep_7 : okT cX9_oneStep 3 9 false (((((((t_X9_oneStep.drop 20).drop 20).drop 20).drop 20).drop 20).drop 20).drop 20) = true := by decide +kernel
theorem kt_X9_oneStep : okT cX9_oneStep 3 9 false t_X9_oneStep = true := okT_cut 20 kt_X9_oneStep_0 (okT_cut 20 kt_X9_oneStep_1 (okT_cut 20 kt_X9_oneStep_2 (okT_cut 20 kt_X9_oneStep_3 (okT_cut 20 kt_X9_oneStep_4 (okT_cut 20 kt_X9_oneStep_5 (okT_cut 20 kt_X9_oneStep_6 (kt_X9_oneStep_7)))))))
set_option maxRecDepth 100000 in
theorem k0_X9_oneStep : okM0 md_X9_oneStep = true := by decide +kernel
theorem ok_X9_oneStep : okMD md_X9_oneStep = true := okMD_of k0_X9_oneStep kt_X9_oneStep
set_option maxRecDepth 100000 in
theorem kt_X9_step : okT cX9_step 1 9 false t_X9_step = true := by decide +kernel
set_option maxRecDepth 100000 in
theorem k0_X9_step : okM0 md_X9_step = true := by decide +kernel
theorem ok_X9_step : okMD md_X9_step = true := okMD_of k0_X9_step kt_X9_step
set_option maxRecDepth 100000 in
theorem kt_X9_run_0 : okT cX9_run 3 9 false (t_X9_run.take 20) = true := by decide +kernel
set_option maxRecDepth 100000 in
theorem kt_X9_run_1 : okT cX9_run 3 9 false (t_X9_run.drop 20) = true := by decide +kernel
theorem kt_X9_run : okT cX9_run 3 9 false t_X9_run = true := okT_cut 20 kt_X9_run_0 (kt_X9_run_1)
set_option maxRecDepth 100000 in
theorem k0_X9_run : okM0 md_X9_run = true := by decide +kernel
theorem ok_X9_run : okMD md_X9_run = true := okMD_of k0_X9_run kt_X9_run
set_option maxRecDepth 100000 in
theorem kt_X9_restart : okT cX9_restart 2 9 false t_X9_restart = true := by decide +kernel
set_option maxRecDepth 100000 in
theorem k0_X9_restart : okM0 md_X9_restart = true := by decide +kernel
theorem ok_X9_restart : okMD md_X9_restart = true := okMD_of k0_X9_restart kt_X9_restart
set_option maxRecDepth 100000 in
theorem kt_X9_collectMinor : okT cX9_collectMinor 1 9 false t_X9_collectMinor = true := by decide +kernel
set_option maxRecDepth 100000 in
theorem k0_X9_collectMinor : okM0 md_X9_collectMinor = true := by decide +kernel
theorem ok_X9_collectMinor : okMD md_X9_collectMinor = true := okMD_of k0_X9_collectMinor kt_X9_collectMinor
set_option maxRecDepth 100000 in
theorem kt_X9_collectMajor : okT cX9_collectMajor 1 9 false t_X9_collectMajor = true := by decide +kernel
set_option maxRecDepth 100000 in
theorem k0_X9_collectMajor : okM0 md_X9_collectMajor = true := by decide +kernel
theorem ok_X9_collectMajor : okMD md_X9_collectMajor = true := okMD_of k0_X9_collectMajor kt_X9_collectMajor
set_option maxRecDepth 100000 in
theorem kt_X9_objects_0 : okT cX9_objects 4 9 false (t_X9_objects.take 20) = true := by decide +kernel
set_option maxRecDepth 100000 in
theorem kt_X9_objects_1 : okT cX9_objects 4 9 false (t_X9_objects.drop 20) = true := by decide +kernel
theorem kt_X9_objects : okT cX9_objects 4 9 false t_X9_objects = true := okT_cut 20 kt_X9_objects_0 (kt_X9_objects_1)
set_option maxRecDepth 100000 in
theorem k0_X9_objects : okM0 md_X9_objects = true := by decide +kernel
theorem ok_X9_objects : okMD md_X9_objects = true := okMD_of k0_X9_objects kt_X9_objects
set_option maxRecDepth 100000 in
theorem kt_X9_many_0 : okT cX9_many 2 9 false (t_X9_many.take 20) = true := by decide +kernel
set_option maxRecDepth 100000 in
theorem kt_X9_many_1 : okT cX9_many 2 9 false ((t_X9_many.drop 20).take 20) = true := by decide +kernel
set_option maxRecDepth 100000 in
theorem kt_X9_many_2 : okT cX9_many 2 9 false (((t_X9_many.drop 20).drop 20).take 20) = true := by decide +kernel
set_option maxRecDepth 100000 in
theorem kt_X9_many_3 : okT cX9_many 2 9 false (((t_X9_many.drop 20).drop 20).drop 20) = true := by decide +kernel
theorem kt_X9_many : okT cX9_many 2 9 false t_X9_many = true := okT_cut 20 kt_X9_many_0 (okT_cut 20 kt_X9_many_1 (okT_cut 20 kt_X9_many_2 (kt_X9_many_3)))
set_option maxRecDepth 100000 in
theorem k0_X9_many : okM0 md_X9_many = true := by decide +kernel
theorem ok_X9_many : okMD md_X9_many = true := okMD_of k0_X9_many kt_X9_many
set_option maxRecDepth 100000 in
theorem kt_X9_tell_0 : okT cX9_tell 4 9 false (t_X9_tell.take 20) = true := by decide +kernel
set_option maxRecDepth 100000 in
theorem kt_X9_tell_1 : okT cX9_tell 4 9 false (t_X9_tell.drop 20) = true := by decide +kernel
theorem kt_X9_tell : okT cX9_tell 4 9 false t_X9_tell = true := okT_cut 20 kt_X9_tell_0 (kt_X9_tell_1)
set_option maxRecDepth 100000 in
theorem k0_X9_tell : okM0 md_X9_tell = true := by decide +kernel
theorem ok_X9_tell : okMD md_X9_tell = true := okMD_of k0_X9_tell kt_X9_tell
set_option maxRecDepth 100000 in
theorem kt_X9_pile_0 : okT cX9_pile 3 9 false (t_X9_pile.take 20) = true := by decide +kernel
set_option maxRecDepth 100000 in
theorem kt_X9_pile_1 : okT cX9_pile 3 9 false (t_X9_pile.drop 20) = true := by decide +kernel
theorem kt_X9_pile : okT cX9_pile 3 9 false t_X9_pile = true := okT_cut 20 kt_X9_pile_0 (kt_X9_pile_1)
set_option maxRecDepth 100000 in
theorem k0_X9_pile : okM0 md_X9_pile = true := by decide +kernel
theorem ok_X9_pile : okMD md_X9_pile = true := okMD_of k0_X9_pile kt_X9_pile
set_option maxRecDepth 100000 in
theorem kt_X9_local__0 : okT cX9_local_ 4 9 false (t_X9_local_.take 20) = true := by decide +kernel
set_option maxRecDepth 100000 in
theorem kt_X9_local__1 : okT cX9_local_ 4 9 false ((t_X9_local_.drop 20).take 20) = true := by decide +kernel
set_option maxRecDepth 100000 in
theorem kt_X9_local__2 : okT cX9_local_ 4 9 false ((t_X9_local_.drop 20).drop 20) = true := by decide +kernel
theorem kt_X9_local_ : okT cX9_local_ 4 9 false t_X9_local_ = true := okT_cut 20 kt_X9_local__0 (okT_cut 20 kt_X9_local__1 (kt_X9_local__2))
set_option maxRecDepth 100000 in
theorem k0_X9_local_ : okM0 md_X9_local_ = true := by decide +kernel
theorem ok_X9_local_ : okMD md_X9_local_ = true := okMD_of k0_X9_local_ kt_X9_local_
set_option maxRecDepth 100000 in
theorem kt_X9_placeOf : okT cX9_placeOf 3 9 false t_X9_placeOf = true := by decide +kernel
set_option maxRecDepth 100000 in
theorem k0_X9_placeOf : okM0 md_X9_placeOf = true := by decide +kernel
theorem ok_X9_placeOf : okMD md_X9_placeOf = true := okMD_of k0_X9_placeOf kt_X9_placeOf
set_option maxRecDepth 100000 in
theorem kt_X9_object_0 : okT cX9_object 4 9 false (t_X9_object.take 20) = true := by decide +kernel
set_option maxRecDepth 100000 in
theorem kt_X9_object_1 : okT cX9_object 4 9 false ((t_X9_object.drop 20).take 20) = true := by decide +kernel
set_option maxRecDepth 100000 in
theorem kt_X9_object_2 : okT cX9_object 4 9 false ((t_X9_object.drop 20).drop 20) = true := by decide +kernel
theorem kt_X9_object : okT cX9_object 4 9 false t_X9_object = true := okT_cut 20 kt_X9_object_0 (okT_cut 20 kt_X9_object_1 (kt_X9_object_2))
set_option maxRecDepth 100000 in
theorem k0_X9_object : okM0 md_X9_object = true := by decide +kernel
theorem ok_X9_object : okMD md_X9_object = true := okMD_of k0_X9_object kt_X9_object
set_option maxRecDepth 100000 in
theorem kt_X9_slot_0 : okT cX9_slot 6 9 false (t_X9_slot.take 20) = true := by decide +kernel
set_option maxRecDepth 100000 in
theorem kt_X9_slot_1 : okT cX9_slot 6 9 false ((t_X9_slot.drop 20).take 20) = true := by decide +kernel
set_option maxRecDepth 100000 in
theorem kt_X9_slot_2 : okT cX9_slot 6 9 false ((t_X9_slot.drop 20).drop 20) = true := by decide +kernel
theorem kt_X9_slot : okT cX9_slot 6 9 false t_X9_slot = true := okT_cut 20 kt_X9_slot_0 (okT_cut 20 kt_X9_slot_1 (kt_X9_slot_2))
set_option maxRecDepth 100000 in
theorem k0_X9_slot : okM0 md_X9_slot = true := by decide +kernel
theorem ok_X9_slot : okMD md_X9_slot = true := okMD_of k0_X9_slot kt_X9_slot
set_option maxRecDepth 100000 in
theorem kt_X9_outSize : okT cX9_outSize 1 9 false t_X9_outSize = true := by decide +kernel
set_option maxRecDepth 100000 in
theorem k0_X9_outSize : okM0 md_X9_outSize = true := by decide +kernel
theorem ok_X9_outSize : okMD md_X9_outSize = true := okMD_of k0_X9_outSize kt_X9_outSize
set_option maxRecDepth 100000 in
theorem kt_X9_out_0 : okT cX9_out 3 9 false (t_X9_out.take 20) = true := by decide +kernel
set_option maxRecDepth 100000 in
theorem kt_X9_out_1 : okT cX9_out 3 9 false (t_X9_out.drop 20) = true := by decide +kernel
theorem kt_X9_out : okT cX9_out 3 9 false t_X9_out = true := okT_cut 20 kt_X9_out_0 (kt_X9_out_1)
set_option maxRecDepth 100000 in
theorem k0_X9_out : okM0 md_X9_out = true := by decide +kernel
theorem ok_X9_out : okMD md_X9_out = true := okMD_of k0_X9_out kt_X9_out
set_option maxRecDepth 100000 in
theorem kt_J7_fill_d0a16 : okT cJ7_fill_d0a16 5 12 false t_J7_fill_d0a16 = true := by decide +kernel
set_option maxRecDepth 100000 in
theorem k0_J7_fill_d0a16 : okM0 md_J7_fill_d0a16 = true := by decide +kernel
theorem ok_J7_fill_d0a16 : okMD md_J7_fill_d0a16 = true := okMD_of k0_J7_fill_d0a16 kt_J7_fill_d0a16
set_option maxRecDepth 100000 in
theorem kt_J7_fill_53178 : okT cJ7_fill_53178 4 12 false t_J7_fill_53178 = true := by decide +kernel
set_option maxRecDepth 100000 in
theorem k0_J7_fill_53178 : okM0 md_J7_fill_53178 = true := by decide +kernel
theorem ok_J7_fill_53178 : okMD md_J7_fill_53178 = true := okMD_of k0_J7_fill_53178 kt_J7_fill_53178
set_option maxRecDepth 100000 in
theorem kt_L_cell : okT cL_cell 2 10 false t_L_cell = true := by decide +kernel
set_option maxRecDepth 100000 in
theorem k0_L_cell : okM0 md_L_cell = true := by decide +kernel
theorem ok_L_cell : okMD md_L_cell = true := okMD_of k0_L_cell kt_L_cell
end
section
theorem prog_ok_0 : ∀ md ∈ prog_0, okMD md = true := List.forall_mem_cons.mpr ⟨ok_X0_init, List.forall_mem_cons.mpr ⟨ok_X0_add, List.forall_mem_cons.mpr ⟨ok_X0_wordAt, List.forall_mem_cons.mpr ⟨ok_X0_placeOf, List.forall_mem_cons.mpr ⟨ok_X0_forgetAll, List.forall_mem_cons.mpr ⟨ok_X0_firstFault, List.forall_mem_cons.mpr ⟨ok_X0_layLabels, List.forall_mem_cons.mpr ⟨ok_X0_faultOf, List.forall_mem_cons.mpr ⟨ok_X1_init, List.forall_mem_cons.mpr ⟨ok_X1_begin, List.forall_mem_cons.mpr ⟨ok_X1_hasLocal, List.forall_mem_cons.mpr ⟨ok_X1_valueAt, List.forall_mem_cons.mpr ⟨ok_X1_put, List.forall_mem_cons.mpr ⟨ok_X2_init, List.forall_mem_cons.mpr ⟨ok_X2_clear, List.forall_mem_cons.mpr ⟨ok_X2_thingOf, List.forall_mem_cons.mpr ⟨ok_X2_outward, List.forall_mem_cons.mpr ⟨ok_X2_withSerial, List.forall_mem_cons.mpr ⟨ok_X2_make, List.forall_mem_cons.mpr ⟨ok_X2_addSlot, List.forall_mem_nil _⟩⟩⟩⟩⟩⟩⟩⟩⟩⟩⟩⟩⟩⟩⟩⟩⟩⟩⟩⟩
theorem prog_ok_1 : ∀ md ∈ prog_1, okMD md = true := List.forall_mem_cons.mpr ⟨ok_X2_removeSlot, List.forall_mem_cons.mpr ⟨ok_X2_hasRoomToMake, List.forall_mem_cons.mpr ⟨ok_X2_hasRoomForSlot, List.forall_mem_cons.mpr ⟨ok_X2_minor, List.forall_mem_cons.mpr ⟨ok_X2_major, List.forall_mem_cons.mpr ⟨ok_X2_youngLeft, List.forall_mem_cons.mpr ⟨ok_X2_oldLeft, List.forall_mem_cons.mpr ⟨ok_X2_freeUnmarked, List.forall_mem_cons.mpr ⟨ok_X2_unused, List.forall_mem_cons.mpr ⟨ok_X2_admit, List.forall_mem_cons.mpr ⟨ok_X2_leaveNursery, List.forall_mem_cons.mpr ⟨ok_X2_free, List.forall_mem_cons.mpr ⟨ok_X2_youngMarked, List.forall_mem_cons.mpr ⟨ok_X2_mark, List.forall_mem_cons.mpr ⟨ok_X2_reachRow, List.forall_mem_cons.mpr ⟨ok_X2_reach, List.forall_mem_cons.mpr ⟨ok_X3_init, List.forall_mem_cons.mpr ⟨ok_X3_isOf, List.forall_mem_cons.mpr ⟨ok_X3_note, List.forall_mem_cons.mpr ⟨ok_X3_hasNamesOf, List.forall_mem_nil _⟩⟩⟩⟩⟩⟩⟩⟩⟩⟩⟩⟩⟩⟩⟩⟩⟩⟩⟩⟩
theorem prog_ok_2 : ∀ md ∈ prog_2, okMD md = true := List.forall_mem_cons.mpr ⟨ok_X4_init, List.forall_mem_cons.mpr ⟨ok_X4_add, List.forall_mem_cons.mpr ⟨ok_X4_kept, List.forall_mem_cons.mpr ⟨ok_X5_init, List.forall_mem_cons.mpr ⟨ok_X5_clear, List.forall_mem_cons.mpr ⟨ok_X5_ofFrame, List.forall_mem_cons.mpr ⟨ok_X5_fromAbove, List.forall_mem_cons.mpr ⟨ok_X5_push, List.forall_mem_cons.mpr ⟨ok_X5_take, List.forall_mem_cons.mpr ⟨ok_X5_lower, List.forall_mem_cons.mpr ⟨ok_X5_enter, List.forall_mem_cons.mpr ⟨ok_X5_leave, List.forall_mem_cons.mpr ⟨ok_X5_globalAt, List.forall_mem_cons.mpr ⟨ok_X5_putGlobal, List.forall_mem_cons.mpr ⟨ok_X5_protoOf, List.forall_mem_cons.mpr ⟨ok_X5_putProto, List.forall_mem_cons.mpr ⟨ok_X6_init, List.forall_mem_cons.mpr ⟨ok_X6_size, List.forall_mem_cons.mpr ⟨ok_X6_indexOf, List.forall_mem_cons.mpr ⟨ok_X6_valueOf, List.forall_mem_nil _⟩⟩⟩⟩⟩⟩⟩⟩⟩⟩⟩⟩⟩⟩⟩⟩⟩⟩⟩⟩
theorem prog_ok_3 : ∀ md ∈ prog_3, okMD md = true := List.forall_mem_cons.mpr ⟨ok_X6_copy, List.forall_mem_cons.mpr ⟨ok_X7_init, List.forall_mem_cons.mpr ⟨ok_X7_memory, List.forall_mem_cons.mpr ⟨ok_X7_forget, List.forall_mem_cons.mpr ⟨ok_X7_wanted, List.forall_mem_cons.mpr ⟨ok_X7_kindsAbove, List.forall_mem_cons.mpr ⟨ok_X7_kindsBelow, List.forall_mem_cons.mpr ⟨ok_X7_isOperation, List.forall_mem_cons.mpr ⟨ok_X7_isInRange, List.forall_mem_cons.mpr ⟨ok_X7_goesToLabel, List.forall_mem_cons.mpr ⟨ok_X7_mostOfA, List.forall_mem_cons.mpr ⟨ok_X7_mostOfB, List.forall_mem_cons.mpr ⟨ok_X8_init, List.forall_mem_cons.mpr ⟨ok_X8_asm, List.forall_mem_cons.mpr ⟨ok_X8_wipe, List.forall_mem_cons.mpr ⟨ok_X8_link, List.forall_mem_cons.mpr ⟨ok_X8_fault, List.forall_mem_cons.mpr ⟨ok_X8_step, List.forall_mem_cons.mpr ⟨ok_X8_run, List.forall_mem_cons.mpr ⟨ok_X8_restart, List.forall_mem_nil _⟩⟩⟩⟩⟩⟩⟩⟩⟩⟩⟩⟩⟩⟩⟩⟩⟩⟩⟩⟩
theorem prog_ok_4 : ∀ md ∈ prog_4, okMD md = true := List.forall_mem_cons.mpr ⟨ok_X8_collectMinor, List.forall_mem_cons.mpr ⟨ok_X8_collectMajor, List.forall_mem_cons.mpr ⟨ok_X8_many, List.forall_mem_cons.mpr ⟨ok_X8_pile, List.forall_mem_cons.mpr ⟨ok_X8_local, List.forall_mem_cons.mpr ⟨ok_X8_object, List.forall_mem_cons.mpr ⟨ok_X8_slot, List.forall_mem_cons.mpr ⟨ok_X8_outSize, List.forall_mem_cons.mpr ⟨ok_X8_out, List.forall_mem_cons.mpr ⟨ok_X8_count, List.forall_mem_cons.mpr ⟨ok_X8_unlink, List.forall_mem_cons.mpr ⟨ok_X8_beginAnew, List.forall_mem_cons.mpr ⟨ok_X8_advance, List.forall_mem_cons.mpr ⟨ok_X8_valuesEnd, List.forall_mem_cons.mpr ⟨ok_X8_roomEnd, List.forall_mem_cons.mpr ⟨ok_X8_perform, List.forall_mem_cons.mpr ⟨ok_X8_bring, List.forall_mem_cons.mpr ⟨ok_X8_exchange, List.forall_mem_cons.mpr ⟨ok_X8_letGo, List.forall_mem_cons.mpr ⟨ok_X8_swap, List.forall_mem_nil _⟩⟩⟩⟩⟩⟩⟩⟩⟩⟩⟩⟩⟩⟩⟩⟩⟩⟩⟩⟩
theorem prog_ok_5 : ∀ md ∈ prog_5, okMD md = true := List.forall_mem_cons.mpr ⟨ok_X8_reckon, List.forall_mem_cons.mpr ⟨ok_X8_arithmetic, List.forall_mem_cons.mpr ⟨ok_X8_jump, List.forall_mem_cons.mpr ⟨ok_X8_store, List.forall_mem_cons.mpr ⟨ok_X8_keep, List.forall_mem_cons.mpr ⟨ok_X8_print, List.forall_mem_cons.mpr ⟨ok_X8_giveBack, List.forall_mem_cons.mpr ⟨ok_X8_makeNew, List.forall_mem_cons.mpr ⟨ok_X8_makeCopy, List.forall_mem_cons.mpr ⟨ok_X8_get, List.forall_mem_cons.mpr ⟨ok_X8_set, List.forall_mem_cons.mpr ⟨ok_X8_drop, List.forall_mem_cons.mpr ⟨ok_X8_parent, List.forall_mem_cons.mpr ⟨ok_X8_adopt, List.forall_mem_cons.mpr ⟨ok_X8_proto, List.forall_mem_cons.mpr ⟨ok_X8_send, List.forall_mem_cons.mpr ⟨ok_X8_call, List.forall_mem_cons.mpr ⟨ok_X8_answer, List.forall_mem_cons.mpr ⟨ok_X8_chainOf, List.forall_mem_cons.mpr ⟨ok_X8_finder, List.forall_mem_nil _⟩⟩⟩⟩⟩⟩⟩⟩⟩⟩⟩⟩⟩⟩⟩⟩⟩⟩⟩⟩
theorem prog_ok_6 : ∀ md ∈ prog_6, okMD md = true := List.forall_mem_cons.mpr ⟨ok_X8_remember, List.forall_mem_cons.mpr ⟨ok_X8_isUnchanged, List.forall_mem_cons.mpr ⟨ok_X8_nearest, List.forall_mem_cons.mpr ⟨ok_X8_serialOf, List.forall_mem_cons.mpr ⟨ok_X8_pack, List.forall_mem_cons.mpr ⟨ok_X8_valueOfThing, List.forall_mem_cons.mpr ⟨ok_X8_truth, List.forall_mem_cons.mpr ⟨ok_X8_kindOf, List.forall_mem_cons.mpr ⟨ok_X8_numberOf, List.forall_mem_cons.mpr ⟨ok_X8_isFalse, List.forall_mem_cons.mpr ⟨ok_X8_isAmong, List.forall_mem_cons.mpr ⟨ok_X8_told, List.forall_mem_cons.mpr ⟨ok_X9_init, List.forall_mem_cons.mpr ⟨ok_X9_clear, List.forall_mem_cons.mpr ⟨ok_X9_asm, List.forall_mem_cons.mpr ⟨ok_X9_wipe, List.forall_mem_cons.mpr ⟨ok_X9_isIn, List.forall_mem_cons.mpr ⟨ok_X9_aFits, List.forall_mem_cons.mpr ⟨ok_X9_bFits, List.forall_mem_cons.mpr ⟨ok_X9_namesLabel, List.forall_mem_nil _⟩⟩⟩⟩⟩⟩⟩⟩⟩⟩⟩⟩⟩⟩⟩⟩⟩⟩⟩⟩
theorem prog_ok_7 : ∀ md ∈ prog_7, okMD md = true := List.forall_mem_cons.mpr ⟨ok_X9_faultOf, List.forall_mem_cons.mpr ⟨ok_X9_link, List.forall_mem_cons.mpr ⟨ok_X9_fault, List.forall_mem_cons.mpr ⟨ok_X9_sizeOf, List.forall_mem_cons.mpr ⟨ok_X9_mark, List.forall_mem_cons.mpr ⟨ok_X9_reach, List.forall_mem_cons.mpr ⟨ok_X9_free, List.forall_mem_cons.mpr ⟨ok_X9_major, List.forall_mem_cons.mpr ⟨ok_X9_heldCells, List.forall_mem_cons.mpr ⟨ok_X9_minor, List.forall_mem_cons.mpr ⟨ok_X9_greatHas, List.forall_mem_cons.mpr ⟨ok_X9_make, List.forall_mem_cons.mpr ⟨ok_X9_widen, List.forall_mem_cons.mpr ⟨ok_X9_topKind, List.forall_mem_cons.mpr ⟨ok_X9_topNumber, List.forall_mem_cons.mpr ⟨ok_X9_push, List.forall_mem_cons.mpr ⟨ok_X9_ends, List.forall_mem_cons.mpr ⟨ok_X9_well, List.forall_mem_cons.mpr ⟨ok_X9_chainOf, List.forall_mem_cons.mpr ⟨ok_X9_ownSlot, List.forall_mem_nil _⟩⟩⟩⟩⟩⟩⟩⟩⟩⟩⟩⟩⟩⟩⟩⟩⟩⟩⟩⟩
theorem prog_ok_8 : ∀ md ∈ prog_8, okMD md = true := List.forall_mem_cons.mpr ⟨ok_X9_find, List.forall_mem_cons.mpr ⟨ok_X9_touch, List.forall_mem_cons.mpr ⟨ok_X9_serialAt, List.forall_mem_cons.mpr ⟨ok_X9_remembers, List.forall_mem_cons.mpr ⟨ok_X9_isCalm, List.forall_mem_cons.mpr ⟨ok_X9_meet, List.forall_mem_cons.mpr ⟨ok_X9_wants, List.forall_mem_cons.mpr ⟨ok_X9_put, List.forall_mem_cons.mpr ⟨ok_X9_reckon, List.forall_mem_cons.mpr ⟨ok_X9_fresh, List.forall_mem_cons.mpr ⟨ok_X9_copy, List.forall_mem_cons.mpr ⟨ok_X9_get, List.forall_mem_cons.mpr ⟨ok_X9_set, List.forall_mem_cons.mpr ⟨ok_X9_drop, List.forall_mem_cons.mpr ⟨ok_X9_parent, List.forall_mem_cons.mpr ⟨ok_X9_adopt, List.forall_mem_cons.mpr ⟨ok_X9_proto, List.forall_mem_cons.mpr ⟨ok_X9_send, List.forall_mem_cons.mpr ⟨ok_X9_giveBack, List.forall_mem_cons.mpr ⟨ok_X9_print, List.forall_mem_nil _⟩⟩⟩⟩⟩⟩⟩⟩⟩⟩⟩⟩⟩⟩⟩⟩⟩⟩⟩⟩
theorem prog_ok_9 : ∀ md ∈ prog_9, okMD md = true := List.forall_mem_cons.mpr ⟨ok_X9_local, List.forall_mem_cons.mpr ⟨ok_X9_store, List.forall_mem_cons.mpr ⟨ok_X9_keep, List.forall_mem_cons.mpr ⟨ok_X9_isFalse, List.forall_mem_cons.mpr ⟨ok_X9_unless, List.forall_mem_cons.mpr ⟨ok_X9_swap, List.forall_mem_cons.mpr ⟨ok_X9_answer, List.forall_mem_cons.mpr ⟨ok_X9_simple, List.forall_mem_cons.mpr ⟨ok_X9_oneStep, List.forall_mem_cons.mpr ⟨ok_X9_step, List.forall_mem_cons.mpr ⟨ok_X9_run, List.forall_mem_cons.mpr ⟨ok_X9_restart, List.forall_mem_cons.mpr ⟨ok_X9_collectMinor, List.forall_mem_cons.mpr ⟨ok_X9_collectMajor, List.forall_mem_cons.mpr ⟨ok_X9_objects, List.forall_mem_cons.mpr ⟨ok_X9_many, List.forall_mem_cons.mpr ⟨ok_X9_tell, List.forall_mem_cons.mpr ⟨ok_X9_pile, List.forall_mem_cons.mpr ⟨ok_X9_local_, List.forall_mem_cons.mpr ⟨ok_X9_placeOf, List.forall_mem_nil _⟩⟩⟩⟩⟩⟩⟩⟩⟩⟩⟩⟩⟩⟩⟩⟩⟩⟩⟩⟩
theorem prog_ok_10 : ∀ md ∈ prog_10, okMD md = true := List.forall_mem_cons.mpr ⟨ok_X9_object, List.forall_mem_cons.mpr ⟨ok_X9_slot, List.forall_mem_cons.mpr ⟨ok_X9_outSize, List.forall_mem_cons.mpr ⟨ok_X9_out, List.forall_mem_cons.mpr ⟨ok_J7_fill_d0a16, List.forall_mem_cons.mpr ⟨ok_J7_fill_53178, List.forall_mem_cons.mpr ⟨ok_L_cell, List.forall_mem_nil _⟩⟩⟩⟩⟩⟩⟩
theorem prog_ok : ∀ md ∈ prog, okMD md = true := List.forall_mem_append.mpr ⟨prog_ok_0, List.forall_mem_append.mpr ⟨prog_ok_1, List.forall_mem_append.mpr ⟨prog_ok_2, List.forall_mem_append.mpr ⟨prog_ok_3, List.forall_mem_append.mpr ⟨prog_ok_4, List.forall_mem_append.mpr ⟨prog_ok_5, List.forall_mem_append.mpr ⟨prog_ok_6, List.forall_mem_append.mpr ⟨prog_ok_7, List.forall_mem_append.mpr ⟨prog_ok_8, List.forall_mem_append.mpr ⟨prog_ok_9, prog_ok_10⟩⟩⟩⟩⟩⟩⟩⟩⟩⟩
set_option maxRecDepth 100000 in
theorem kt_law_0 : okT code 4 10 false (t_L_law.take 20) = true := by decide +kernel
set_option maxRecDepth 100000 in
theorem kt_law_1 : okT code 4 10 false ((t_L_law.drop 20).take 20) = true := by decide +kernel
set_option maxRecDepth 100000 in
theorem kt_law_2 : okT code 4 10 false (((t_L_law.drop 20).drop 20).take 20) = true := by decide +kernel
set_option maxRecDepth 100000 in
theorem kt_law_3 : okT code 4 10 false ((((t_L_law.drop 20).drop 20).drop 20).take 20) = true := by decide +kernel
set_option maxRecDepth 100000 in
theorem kt_law_4 : okT code 4 10 false (((((t_L_law.drop 20).drop 20).drop 20).drop 20).take 20) = true := by decide +kernel
set_option maxRecDepth 100000 in
theorem kt_law_5 : okT code 4 10 false ((((((t_L_law.drop 20).drop 20).drop 20).drop 20).drop 20).take 20) = true := by decide +kernel
set_option maxRecDepth 100000 in
theorem kt_law_6 : okT code 4 10 false (((((((t_L_law.drop 20).drop 20).drop 20).drop 20).drop 20).drop 20).take 20) = true := by decide +kernel
set_option maxRecDepth 100000 in
theorem kt_law_7 : okT code 4 10 false ((((((((t_L_law.drop 20).drop 20).drop 20).drop 20).drop 20).drop 20).drop 20).take 20) = true := by decide +kernel
set_option maxRecDepth 100000 in
theorem kt_law_8 : okT code 4 10 false (((((((((t_L_law.drop 20).drop 20).drop 20).drop 20).drop 20).drop 20).drop 20).drop 20).take 20) = true := by decide +kernel
set_option maxRecDepth 100000 in
theorem kt_law_9 : okT code 4 10 false ((((((((((t_L_law.drop 20).drop 20).drop 20).drop 20).drop 20).drop 20).drop 20).drop 20).drop 20).take 20) = true := by decide +kernel
set_option maxRecDepth 100000 in
theorem kt_law_10 : okT code 4 10 false (((((((((((t_L_law.drop 20).drop 20).drop 20).drop 20).drop 20).drop 20).drop 20).drop 20).drop 20).drop 20).take 20) = true := by decide +kernel
set_option maxRecDepth 100000 in
theorem kt_law_11 : okT code 4 10 false ((((((((((((t_L_law.drop 20).drop 20).drop 20).drop 20).drop 20).drop 20).drop 20).drop 20).drop 20).drop 20).drop 20).take 20) = true := by decide +kernel
set_option maxRecDepth 100000 in
theorem kt_law_12 : okT code 4 10 false (((((((((((((t_L_law.drop 20).drop 20).drop 20).drop 20).drop 20).drop 20).drop 20).drop 20).drop 20).drop 20).drop 20).drop 20).take 20) = true := by decide +kernel
set_option maxRecDepth 100000 in
theorem kt_law_13 : okT code 4 10 false ((((((((((((((t_L_law.drop 20).drop 20).drop 20).drop 20).drop 20).drop 20).drop 20).drop 20).drop 20).drop 20).drop 20).drop 20).drop 20).take 20) = true := by decide +kernel
set_option maxRecDepth 100000 in
theorem kt_law_14 : okT code 4 10 false (((((((((((((((t_L_law.drop 20).drop 20).drop 20).drop 20).drop 20).drop 20).drop 20).drop 20).drop 20).drop 20).drop 20).drop 20).drop 20).drop 20).take 20) = true := by decide +kernel
set_option maxRecDepth 100000 in
theorem kt_law_15 : okT code 4 10 false (((((((((((((((t_L_law.drop 20).drop 20).drop 20).drop 20).drop 20).drop 20).drop 20).drop 20).drop 20).drop 20).drop 20).drop 20).drop 20).drop 20).drop 20) = true := by decide +kernel
theorem kt_law : okT code 4 10 false t_L_law = true := okT_cut 20 kt_law_0 (okT_cut 20 kt_law_1 (okT_cut 20 kt_law_2 (okT_cut 20 kt_law_3 (okT_cut 20 kt_law_4 (okT_cut 20 kt_law_5 (okT_cut 20 kt_law_6 (okT_cut 20 kt_law_7 (okT_cut 20 kt_law_8 (okT_cut 20 kt_law_9 (okT_cut 20 kt_law_10 (okT_cut 20 kt_law_11 (okT_cut 20 kt_law_12 (okT_cut 20 kt_law_13 (okT_cut 20 kt_law_14 (kt_law_15)))))))))))))))
end
section
/-! ===== the reference by itself: one object and 33 arrays; M k j: the field k (j = 0), or the place j of the array that the field k is ===== -/
abbrev Mem : Type := Nat → Nat → Int32
/-- kinds of the fields: 0 int, 1 boolean, 2 int array, 3 boolean array; places of the arrays behind the object; lengths -/
def rK : List Nat := [0, 0, 2, 2, 2, 0, 2, 1, 0, 0, 0, 0, 2, 2, 0, 2, 2, 2, 2, 2, 2, 2, 0, 2, 2, 2, 2, 2, 0, 2, 3, 2, 2, 2, 2, 2, 2, 3, 2, 0, 0, 0, 0, 0, 0, 0, 0, 2, 2, 2, 2, 2, 0, 0]
def rO : List Nat := [0, 0, 1, 2, 3, 0, 4, 0, 0, 0, 0, 0, 5, 6, 0, 7, 8, 9, 10, 11, 12, 13, 0, 14, 15, 16, 17, 18, 0, 19, 20, 21, 22, 23, 24, 25, 26, 27, 28, 0, 0, 0, 0, 0, 0, 0, 0, 29, 30, 31, 32, 33, 0, 0]
def rN : List Nat := [0, 0, 2000, 2000, 2000, 0, 200, 0, 0, 0, 0, 0, 1000, 1000, 0, 200, 200, 200, 200, 200, 3200, 3200, 0, 16, 16, 4, 1000, 1000, 0, 1500, 1500, 1500, 1500, 1500, 60000, 60000, 60000, 1500, 1500, 0, 0, 0, 0, 0, 0, 0, 0, 2000, 2000, 2000, 80000, 2000, 0, 0]
def mfl (m0 : Nat) (M : Mem) : List Value := [.int (M 0 0), .int (M 1 0), .ref (m0 + 1), .ref (m0 + 2), .ref (m0 + 3), .int (M 5 0), .ref (m0 + 4), .int (M 7 0), .int (M 8 0), .int (M 9 0), .int (M 10 0), .int (M 11 0), .ref (m0 + 5), .ref (m0 + 6), .int (M 14 0), .ref (m0 + 7), .ref (m0 + 8), .ref (m0 + 9), .ref (m0 + 10), .ref (m0 + 11), .ref (m0 + 12), .ref (m0 + 13), .int (M 22 0), .ref (m0 + 14), .ref (m0 + 15), .ref (m0 + 16), .ref (m0 + 17), .ref (m0 + 18), .int (M 28 0), .ref (m0 + 19), .ref (m0 + 20), .ref (m0 + 21), .ref (m0 + 22), .ref (m0 + 23), .ref (m0 + 24), .ref (m0 + 25), .ref (m0 + 26), .ref (m0 + 27), .ref (m0 + 28), .int (M 39 0), .int (M 40 0), .int (M 41 0), .int (M 42 0), .int (M 43 0), .int (M 44 0), .int (M 45 0), .int (M 46 0), .ref (m0 + 29), .ref (m0 + 30), .ref (m0 + 31), .ref (m0 + 32), .ref (m0 + 33), .int (M 52 0), .int (M 53 0)]
def mcs (m0 : Nat) (M : Mem) : List va_E := [oB 9 (mfl m0 M), aI 2000 (M 2), aI 2000 (M 3), aI 2000 (M 4), aI 200 (M 6), aI 1000 (M 12), aI 1000 (M 13), aI 200 (M 15), aI 200 (M 16), aI 200 (M 17), aI 200 (M 18), aI 200 (M 19), aI 3200 (M 20), aI 3200 (M 21), aI 16 (M 23), aI 16 (M 24), aI 4 (M 25), aI 1000 (M 26), aI 1000 (M 27), aI 1500 (M 29), aZ 1500 (M 30), aI 1500 (M 31), aI 1500 (M 32), aI 1500 (M 33), aI 60000 (M 34), aI 60000 (M 35), aI 60000 (M 36), aZ 1500 (M 37), aI 1500 (M 38), aI 2000 (M 47), aI 2000 (M 48), aI 2000 (M 49), aI 80000 (M 50), aI 2000 (M 51)]
def up2 (M : Mem) (k j : Nat) (x : Int32) : Mem := fun k' => if k' = k then upd (M k) j x else M k'
theorem mcs_int (m0 : Nat) (M : Mem) (x : Int32) : ∀ k, k < 54 → (rK.getD k 9 = 0 ∨ rK.getD k 9 = 1) → (mcs m0 M).set 0 (oB 9 ((mfl m0 M).set k (.int x))) = mcs m0 (up2 M k 0 x) := by
  intro k hk h
  match k, hk, h with
  | 0, _, h => exact rfl
  | 1, _, h => exact rfl
  | 2, _, h => exact absurd h (by decide)
  | 3, _, h => exact absurd h (by decide)
  | 4, _, h => exact absurd h (by decide)
  | 5, _, h => exact rfl
  | 6, _, h => exact absurd h (by decide)
  | 7, _, h => exact rfl
  | 8, _, h => exact rfl
  | 9, _, h => exact rfl
  | 10, _, h => exact rfl
  | 11, _, h => exact rfl
  | 12, _, h => exact absurd h (by decide)
  | 13, _, h => exact absurd h (by decide)
  | 14, _, h => exact rfl
  | 15, _, h => exact absurd h (by decide)
  | 16, _, h => exact absurd h (by decide)
  | 17, _, h => exact absurd h (by decide)
  | 18, _, h => exact absurd h (by decide)
  | 19, _, h => exact absurd h (by decide)
  | 20, _, h => exact absurd h (by decide)
  | 21, _, h => exact absurd h (by decide)
  | 22, _, h => exact rfl
  | 23, _, h => exact absurd h (by decide)
  | 24, _, h => exact absurd h (by decide)
  | 25, _, h => exact absurd h (by decide)
  | 26, _, h => exact absurd h (by decide)
  | 27, _, h => exact absurd h (by decide)
  | 28, _, h => exact rfl
  | 29, _, h => exact absurd h (by decide)
  | 30, _, h => exact absurd h (by decide)
  | 31, _, h => exact absurd h (by decide)
  | 32, _, h => exact absurd h (by decide)
  | 33, _, h => exact absurd h (by decide)
  | 34, _, h => exact absurd h (by decide)
  | 35, _, h => exact absurd h (by decide)
  | 36, _, h => exact absurd h (by decide)
  | 37, _, h => exact absurd h (by decide)
  | 38, _, h => exact absurd h (by decide)
  | 39, _, h => exact rfl
  | 40, _, h => exact rfl
  | 41, _, h => exact rfl
  | 42, _, h => exact rfl
  | 43, _, h => exact rfl
  | 44, _, h => exact rfl
  | 45, _, h => exact rfl
  | 46, _, h => exact rfl
  | 47, _, h => exact absurd h (by decide)
  | 48, _, h => exact absurd h (by decide)
  | 49, _, h => exact absurd h (by decide)
  | 50, _, h => exact absurd h (by decide)
  | 51, _, h => exact absurd h (by decide)
  | 52, _, h => exact rfl
  | 53, _, h => exact rfl
  | k + 54, hk, _ => exact absurd hk (by omega)
theorem mcs_arr (m0 : Nat) (M : Mem) (j : Nat) (x : Int32) : ∀ k, k < 54 → rK.getD k 9 = 2 → (mcs m0 M).set (rO.getD k 0) (aI (rN.getD k 0) (upd (M k) j x)) = mcs m0 (up2 M k j x) := by
  intro k hk h
  match k, hk, h with
  | 0, _, h => exact absurd h (by decide)
  | 1, _, h => exact absurd h (by decide)
  | 2, _, h => exact rfl
  | 3, _, h => exact rfl
  | 4, _, h => exact rfl
  | 5, _, h => exact absurd h (by decide)
  | 6, _, h => exact rfl
  | 7, _, h => exact absurd h (by decide)
  | 8, _, h => exact absurd h (by decide)
  | 9, _, h => exact absurd h (by decide)
  | 10, _, h => exact absurd h (by decide)
  | 11, _, h => exact absurd h (by decide)
  | 12, _, h => exact rfl
  | 13, _, h => exact rfl
  | 14, _, h => exact absurd h (by decide)
  | 15, _, h => exact rfl
  | 16, _, h => exact rfl
  | 17, _, h => exact rfl
  | 18, _, h => exact rfl
  | 19, _, h => exact rfl
  | 20, _, h => exact rfl
  | 21, _, h => exact rfl
  | 22, _, h => exact absurd h (by decide)
  | 23, _, h => exact rfl
  | 24, _, h => exact rfl
  | 25, _, h => exact rfl
  | 26, _, h => exact rfl
  | 27, _, h => exact rfl
  | 28, _, h => exact absurd h (by decide)
  | 29, _, h => exact rfl
  | 30, _, h => exact absurd h (by decide)
  | 31, _, h => exact rfl
  | 32, _, h => exact rfl
  | 33, _, h => exact rfl
  | 34, _, h => exact rfl
  | 35, _, h => exact rfl
  | 36, _, h => exact rfl
  | 37, _, h => exact absurd h (by decide)
  | 38, _, h => exact rfl
  | 39, _, h => exact absurd h (by decide)
  | 40, _, h => exact absurd h (by decide)
  | 41, _, h => exact absurd h (by decide)
  | 42, _, h => exact absurd h (by decide)
  | 43, _, h => exact absurd h (by decide)
  | 44, _, h => exact absurd h (by decide)
  | 45, _, h => exact absurd h (by decide)
  | 46, _, h => exact absurd h (by decide)
  | 47, _, h => exact rfl
  | 48, _, h => exact rfl
  | 49, _, h => exact rfl
  | 50, _, h => exact rfl
  | 51, _, h => exact rfl
  | 52, _, h => exact absurd h (by decide)
  | 53, _, h => exact absurd h (by decide)
  | k + 54, hk, _ => exact absurd hk (by omega)
theorem mcs_arz (m0 : Nat) (M : Mem) (j : Nat) (x : Int32) : ∀ k, k < 54 → rK.getD k 9 = 3 → (mcs m0 M).set (rO.getD k 0) (aZ (rN.getD k 0) (upd (M k) j x)) = mcs m0 (up2 M k j x) := by
  intro k hk h
  match k, hk, h with
  | 0, _, h => exact absurd h (by decide)
  | 1, _, h => exact absurd h (by decide)
  | 2, _, h => exact absurd h (by decide)
  | 3, _, h => exact absurd h (by decide)
  | 4, _, h => exact absurd h (by decide)
  | 5, _, h => exact absurd h (by decide)
  | 6, _, h => exact absurd h (by decide)
  | 7, _, h => exact absurd h (by decide)
  | 8, _, h => exact absurd h (by decide)
  | 9, _, h => exact absurd h (by decide)
  | 10, _, h => exact absurd h (by decide)
  | 11, _, h => exact absurd h (by decide)
  | 12, _, h => exact absurd h (by decide)
  | 13, _, h => exact absurd h (by decide)
  | 14, _, h => exact absurd h (by decide)
  | 15, _, h => exact absurd h (by decide)
  | 16, _, h => exact absurd h (by decide)
  | 17, _, h => exact absurd h (by decide)
  | 18, _, h => exact absurd h (by decide)
  | 19, _, h => exact absurd h (by decide)
  | 20, _, h => exact absurd h (by decide)
  | 21, _, h => exact absurd h (by decide)
  | 22, _, h => exact absurd h (by decide)
  | 23, _, h => exact absurd h (by decide)
  | 24, _, h => exact absurd h (by decide)
  | 25, _, h => exact absurd h (by decide)
  | 26, _, h => exact absurd h (by decide)
  | 27, _, h => exact absurd h (by decide)
  | 28, _, h => exact absurd h (by decide)
  | 29, _, h => exact absurd h (by decide)
  | 30, _, h => exact rfl
  | 31, _, h => exact absurd h (by decide)
  | 32, _, h => exact absurd h (by decide)
  | 33, _, h => exact absurd h (by decide)
  | 34, _, h => exact absurd h (by decide)
  | 35, _, h => exact absurd h (by decide)
  | 36, _, h => exact absurd h (by decide)
  | 37, _, h => exact rfl
  | 38, _, h => exact absurd h (by decide)
  | 39, _, h => exact absurd h (by decide)
  | 40, _, h => exact absurd h (by decide)
  | 41, _, h => exact absurd h (by decide)
  | 42, _, h => exact absurd h (by decide)
  | 43, _, h => exact absurd h (by decide)
  | 44, _, h => exact absurd h (by decide)
  | 45, _, h => exact absurd h (by decide)
  | 46, _, h => exact absurd h (by decide)
  | 47, _, h => exact absurd h (by decide)
  | 48, _, h => exact absurd h (by decide)
  | 49, _, h => exact absurd h (by decide)
  | 50, _, h => exact absurd h (by decide)
  | 51, _, h => exact absurd h (by decide)
  | 52, _, h => exact absurd h (by decide)
  | 53, _, h => exact absurd h (by decide)
  | k + 54, hk, _ => exact absurd hk (by omega)
theorem mfl_int (m0 : Nat) (M : Mem) : ∀ k, k < 54 → (rK.getD k 9 = 0 ∨ rK.getD k 9 = 1) → (mfl m0 M)[k]? = some (.int (M k 0)) := by
  intro k hk h
  match k, hk, h with
  | 0, _, h => exact rfl
  | 1, _, h => exact rfl
  | 2, _, h => exact absurd h (by decide)
  | 3, _, h => exact absurd h (by decide)
  | 4, _, h => exact absurd h (by decide)
  | 5, _, h => exact rfl
  | 6, _, h => exact absurd h (by decide)
  | 7, _, h => exact rfl
  | 8, _, h => exact rfl
  | 9, _, h => exact rfl
  | 10, _, h => exact rfl
  | 11, _, h => exact rfl
  | 12, _, h => exact absurd h (by decide)
  | 13, _, h => exact absurd h (by decide)
  | 14, _, h => exact rfl
  | 15, _, h => exact absurd h (by decide)
  | 16, _, h => exact absurd h (by decide)
  | 17, _, h => exact absurd h (by decide)
  | 18, _, h => exact absurd h (by decide)
  | 19, _, h => exact absurd h (by decide)
  | 20, _, h => exact absurd h (by decide)
  | 21, _, h => exact absurd h (by decide)
  | 22, _, h => exact rfl
  | 23, _, h => exact absurd h (by decide)
  | 24, _, h => exact absurd h (by decide)
  | 25, _, h => exact absurd h (by decide)
  | 26, _, h => exact absurd h (by decide)
  | 27, _, h => exact absurd h (by decide)
  | 28, _, h => exact rfl
  | 29, _, h => exact absurd h (by decide)
  | 30, _, h => exact absurd h (by decide)
  | 31, _, h => exact absurd h (by decide)
  | 32, _, h => exact absurd h (by decide)
  | 33, _, h => exact absurd h (by decide)
  | 34, _, h => exact absurd h (by decide)
  | 35, _, h => exact absurd h (by decide)
  | 36, _, h => exact absurd h (by decide)
  | 37, _, h => exact absurd h (by decide)
  | 38, _, h => exact absurd h (by decide)
  | 39, _, h => exact rfl
  | 40, _, h => exact rfl
  | 41, _, h => exact rfl
  | 42, _, h => exact rfl
  | 43, _, h => exact rfl
  | 44, _, h => exact rfl
  | 45, _, h => exact rfl
  | 46, _, h => exact rfl
  | 47, _, h => exact absurd h (by decide)
  | 48, _, h => exact absurd h (by decide)
  | 49, _, h => exact absurd h (by decide)
  | 50, _, h => exact absurd h (by decide)
  | 51, _, h => exact absurd h (by decide)
  | 52, _, h => exact rfl
  | 53, _, h => exact rfl
  | k + 54, hk, _ => exact absurd hk (by omega)
theorem mfl_arr (m0 : Nat) (M : Mem) : ∀ k, k < 54 → (rK.getD k 9 = 2 ∨ rK.getD k 9 = 3) → (mfl m0 M)[k]? = some (.ref (m0 + rO.getD k 0)) := by
  intro k hk h
  match k, hk, h with
  | 0, _, h => exact absurd h (by decide)
  | 1, _, h => exact absurd h (by decide)
  | 2, _, h => exact rfl
  | 3, _, h => exact rfl
  | 4, _, h => exact rfl
  | 5, _, h => exact absurd h (by decide)
  | 6, _, h => exact rfl
  | 7, _, h => exact absurd h (by decide)
  | 8, _, h => exact absurd h (by decide)
  | 9, _, h => exact absurd h (by decide)
  | 10, _, h => exact absurd h (by decide)
  | 11, _, h => exact absurd h (by decide)
  | 12, _, h => exact rfl
  | 13, _, h => exact rfl
  | 14, _, h => exact absurd h (by decide)
  | 15, _, h => exact rfl
  | 16, _, h => exact rfl
  | 17, _, h => exact rfl
  | 18, _, h => exact rfl
  | 19, _, h => exact rfl
  | 20, _, h => exact rfl
  | 21, _, h => exact rfl
  | 22, _, h => exact absurd h (by decide)
  | 23, _, h => exact rfl
  | 24, _, h => exact rfl
  | 25, _, h => exact rfl
  | 26, _, h => exact rfl
  | 27, _, h => exact rfl
  | 28, _, h => exact absurd h (by decide)
  | 29, _, h => exact rfl
  | 30, _, h => exact rfl
  | 31, _, h => exact rfl
  | 32, _, h => exact rfl
  | 33, _, h => exact rfl
  | 34, _, h => exact rfl
  | 35, _, h => exact rfl
  | 36, _, h => exact rfl
  | 37, _, h => exact rfl
  | 38, _, h => exact rfl
  | 39, _, h => exact absurd h (by decide)
  | 40, _, h => exact absurd h (by decide)
  | 41, _, h => exact absurd h (by decide)
  | 42, _, h => exact absurd h (by decide)
  | 43, _, h => exact absurd h (by decide)
  | 44, _, h => exact absurd h (by decide)
  | 45, _, h => exact absurd h (by decide)
  | 46, _, h => exact absurd h (by decide)
  | 47, _, h => exact rfl
  | 48, _, h => exact rfl
  | 49, _, h => exact rfl
  | 50, _, h => exact rfl
  | 51, _, h => exact rfl
  | 52, _, h => exact absurd h (by decide)
  | 53, _, h => exact absurd h (by decide)
  | k + 54, hk, _ => exact absurd hk (by omega)
theorem mcs_at2 (m0 : Nat) (M : Mem) : ∀ k, k < 54 → rK.getD k 9 = 2 → (mcs m0 M)[rO.getD k 0]? = some (aI (rN.getD k 0) (M k)) := by
  intro k hk h
  match k, hk, h with
  | 0, _, h => exact absurd h (by decide)
  | 1, _, h => exact absurd h (by decide)
  | 2, _, h => exact rfl
  | 3, _, h => exact rfl
  | 4, _, h => exact rfl
  | 5, _, h => exact absurd h (by decide)
  | 6, _, h => exact rfl
  | 7, _, h => exact absurd h (by decide)
  | 8, _, h => exact absurd h (by decide)
  | 9, _, h => exact absurd h (by decide)
  | 10, _, h => exact absurd h (by decide)
  | 11, _, h => exact absurd h (by decide)
  | 12, _, h => exact rfl
  | 13, _, h => exact rfl
  | 14, _, h => exact absurd h (by decide)
  | 15, _, h => exact rfl
  | 16, _, h => exact rfl
  | 17, _, h => exact rfl
  | 18, _, h => exact rfl
  | 19, _, h => exact rfl
  | 20, _, h => exact rfl
  | 21, _, h => exact rfl
  | 22, _, h => exact absurd h (by decide)
  | 23, _, h => exact rfl
  | 24, _, h => exact rfl
  | 25, _, h => exact rfl
  | 26, _, h => exact rfl
  | 27, _, h => exact rfl
  | 28, _, h => exact absurd h (by decide)
  | 29, _, h => exact rfl
  | 30, _, h => exact absurd h (by decide)
  | 31, _, h => exact rfl
  | 32, _, h => exact rfl
  | 33, _, h => exact rfl
  | 34, _, h => exact rfl
  | 35, _, h => exact rfl
  | 36, _, h => exact rfl
  | 37, _, h => exact absurd h (by decide)
  | 38, _, h => exact rfl
  | 39, _, h => exact absurd h (by decide)
  | 40, _, h => exact absurd h (by decide)
  | 41, _, h => exact absurd h (by decide)
  | 42, _, h => exact absurd h (by decide)
  | 43, _, h => exact absurd h (by decide)
  | 44, _, h => exact absurd h (by decide)
  | 45, _, h => exact absurd h (by decide)
  | 46, _, h => exact absurd h (by decide)
  | 47, _, h => exact rfl
  | 48, _, h => exact rfl
  | 49, _, h => exact rfl
  | 50, _, h => exact rfl
  | 51, _, h => exact rfl
  | 52, _, h => exact absurd h (by decide)
  | 53, _, h => exact absurd h (by decide)
  | k + 54, hk, _ => exact absurd hk (by omega)
theorem mcs_at3 (m0 : Nat) (M : Mem) : ∀ k, k < 54 → rK.getD k 9 = 3 → (mcs m0 M)[rO.getD k 0]? = some (aZ (rN.getD k 0) (M k)) := by
  intro k hk h
  match k, hk, h with
  | 0, _, h => exact absurd h (by decide)
  | 1, _, h => exact absurd h (by decide)
  | 2, _, h => exact absurd h (by decide)
  | 3, _, h => exact absurd h (by decide)
  | 4, _, h => exact absurd h (by decide)
  | 5, _, h => exact absurd h (by decide)
  | 6, _, h => exact absurd h (by decide)
  | 7, _, h => exact absurd h (by decide)
  | 8, _, h => exact absurd h (by decide)
  | 9, _, h => exact absurd h (by decide)
  | 10, _, h => exact absurd h (by decide)
  | 11, _, h => exact absurd h (by decide)
  | 12, _, h => exact absurd h (by decide)
  | 13, _, h => exact absurd h (by decide)
  | 14, _, h => exact absurd h (by decide)
  | 15, _, h => exact absurd h (by decide)
  | 16, _, h => exact absurd h (by decide)
  | 17, _, h => exact absurd h (by decide)
  | 18, _, h => exact absurd h (by decide)
  | 19, _, h => exact absurd h (by decide)
  | 20, _, h => exact absurd h (by decide)
  | 21, _, h => exact absurd h (by decide)
  | 22, _, h => exact absurd h (by decide)
  | 23, _, h => exact absurd h (by decide)
  | 24, _, h => exact absurd h (by decide)
  | 25, _, h => exact absurd h (by decide)
  | 26, _, h => exact absurd h (by decide)
  | 27, _, h => exact absurd h (by decide)
  | 28, _, h => exact absurd h (by decide)
  | 29, _, h => exact absurd h (by decide)
  | 30, _, h => exact rfl
  | 31, _, h => exact absurd h (by decide)
  | 32, _, h => exact absurd h (by decide)
  | 33, _, h => exact absurd h (by decide)
  | 34, _, h => exact absurd h (by decide)
  | 35, _, h => exact absurd h (by decide)
  | 36, _, h => exact absurd h (by decide)
  | 37, _, h => exact rfl
  | 38, _, h => exact absurd h (by decide)
  | 39, _, h => exact absurd h (by decide)
  | 40, _, h => exact absurd h (by decide)
  | 41, _, h => exact absurd h (by decide)
  | 42, _, h => exact absurd h (by decide)
  | 43, _, h => exact absurd h (by decide)
  | 44, _, h => exact absurd h (by decide)
  | 45, _, h => exact absurd h (by decide)
  | 46, _, h => exact absurd h (by decide)
  | 47, _, h => exact absurd h (by decide)
  | 48, _, h => exact absurd h (by decide)
  | 49, _, h => exact absurd h (by decide)
  | 50, _, h => exact absurd h (by decide)
  | 51, _, h => exact absurd h (by decide)
  | 52, _, h => exact absurd h (by decide)
  | 53, _, h => exact absurd h (by decide)
  | k + 54, hk, _ => exact absurd hk (by omega)
theorem mcs_len (m0 : Nat) (M : Mem) : (mcs m0 M).length = 34 := rfl
theorem mfl_len (m0 : Nat) (M : Mem) : (mfl m0 M).length = 54 := rfl
/-- a heap with the reference's cells at i0 -/
def putM (z i0 : Nat) (M : Mem) (σ : Hp) : Hp := σ.take i0 ++ (mcs (z + i0) M ++ σ.drop (i0 + 34))
theorem putM_len {z i0 : Nat} {M : Mem} {σ : Hp} (h : i0 + 34 ≤ σ.length) : (putM z i0 M σ).length = σ.length := by
  simp only [putM, List.length_append, List.length_take, List.length_drop, mcs_len]
  omega
theorem putM_in {z i0 c : Nat} {M : Mem} {σ : Hp} (h : i0 + 34 ≤ σ.length) (hc : c < 34) : (putM z i0 M σ)[i0 + c]? = (mcs (z + i0) M)[c]? := by
  rw [putM, List.getElem?_append_right (by rw [List.length_take]; omega), List.length_take, show i0 + c - min i0 σ.length = c by omega, List.getElem?_append_left (by rw [mcs_len]; exact hc)]
theorem putM_set {z i0 c : Nat} {M M' : Mem} {σ : Hp} {x : va_E} (h : i0 + 34 ≤ σ.length) (hc : c < 34) (hx : (mcs (z + i0) M).set c x = mcs (z + i0) M') : (putM z i0 M σ).set (i0 + c) x = putM z i0 M' σ := by
  have hl : (σ.take i0).length = i0 := by rw [List.length_take]; omega
  unfold putM
  rw [List.set_append_right _ _ (by omega), hl, show i0 + c - i0 = c by omega, List.set_append_left _ _ (by rw [mcs_len]; exact hc), hx]
theorem putM_out {z i0 k : Nat} {M : Mem} {σ : Hp} (h : i0 + 34 ≤ σ.length) (hk : k < i0 ∨ i0 + 34 ≤ k) : (putM z i0 M σ)[k]? = σ[k]? := by
  have hl : (σ.take i0).length = i0 := by rw [List.length_take]; omega
  unfold putM
  rcases hk with hk | hk
  · rw [List.getElem?_append_left (by omega), List.getElem?_take_of_lt hk]
  · rw [List.getElem?_append_right (by omega), hl, List.getElem?_append_right (by rw [mcs_len]; omega), mcs_len, List.getElem?_drop]
    congr 1
    omega
theorem putM_put {z i0 : Nat} {M M' : Mem} {σ : Hp} (h : i0 + 34 ≤ σ.length) : putM z i0 M' (putM z i0 M σ) = putM z i0 M' σ := by
  apply List.ext_getElem?
  intro k
  by_cases hk : i0 ≤ k ∧ k < i0 + 34
  · have e : k = i0 + (k - i0) := by omega
    rw [e, putM_in (by rw [putM_len h]; exact h) (by omega), putM_in h (by omega)]
  · have hk' : k < i0 ∨ i0 + 34 ≤ k := by omega
    rw [putM_out (by rw [putM_len h]; exact h) hk', putM_out h hk', putM_out h hk']
theorem putM_cel {z b L i0 c : Nat} {xs : Nat → Int32} {M : Mem} {σ : Hp} (h : i0 + 34 ≤ σ.length) (hc : c < 34) : cel z b L xs (putM z i0 M σ) (z + i0 + c) = (mcs (z + i0) M)[c]? := by
  unfold cel
  rw [if_pos (by omega), show z + i0 + c - z = i0 + c by omega, putM_in h hc]
theorem putM_upc {z i0 c : Nat} {M M' : Mem} {σ : Hp} {x : va_E} (h : i0 + 34 ≤ σ.length) (hc : c < 34) (hx : (mcs (z + i0) M).set c x = mcs (z + i0) M') : upc z (putM z i0 M σ) (z + i0 + c) x = putM z i0 M' σ := by
  unfold upc
  rw [show z + i0 + c - z = i0 + c by omega]
  exact putM_set h hc hx
abbrev Rrel : Type := Nat → List Value → Mem → Option Value → Mem → Prop
/-- one instruction of the reference; .ref 0 is the object itself, .ref k the array of its field k -/
def insR (C : Rrel) (oc : Nat) (rt : Option FieldType) (Qr : Option Value → Mem → Prop) (K : Nat → Lv → List Value → Mem → Prop) (pc : Nat) (lv : Lv) (st : List Value) (M : Mem) : Instr → Prop
  | .iconst n => K (pc + 1) lv (.int (Int32.ofInt n) :: st) M
  | .bipush n => K (pc + 2) lv (.int (Int8.ofInt n).toInt32 :: st) M
  | .sipush n => K (pc + 3) lv (.int (Int16.ofInt n).toInt32 :: st) M
  | .lconst n => K (pc + 1) lv (.long (Int64.ofNat n.val) :: st) M
  | .ldc i => match kres oc i with
    | some (v, _) => K (pc + 2) lv (.int v :: st) M
    | none => False
  | .ldc2_w i => match jres oc i with
    | some (v, _) => K (pc + 3) lv (.long v :: st) M
    | none => False
  | .iload_n i => match lv.lookup i.val with
    | some (.int x) => K (pc + 1) lv (.int x :: st) M
    | _ => False
  | .iload i => match lv.lookup i with
    | some (.int x) => K (pc + 2) lv (.int x :: st) M
    | _ => False
  | .lload_n i => match lv.lookup i.val with
    | some (.long x) => K (pc + 1) lv (.long x :: st) M
    | _ => False
  | .lload i => match lv.lookup i with
    | some (.long x) => K (pc + 2) lv (.long x :: st) M
    | _ => False
  | .istore_n i => match st with
    | .int x :: r => K (pc + 1) (lvs i.val (.int x) lv) r M
    | _ => False
  | .istore i => match st with
    | .int x :: r => K (pc + 2) (lvs i (.int x) lv) r M
    | _ => False
  | .lstore_n i => match st with
    | .long x :: r => K (pc + 1) (lvl i.val (.long x) lv) r M
    | _ => False
  | .lstore i => match st with
    | .long x :: r => K (pc + 2) (lvl i (.long x) lv) r M
    | _ => False
  | .iinc i n => match lv.lookup i with
    | some (.int x) => K (pc + 3) (lvs i (.int (x + Int32.ofInt n)) lv) st M
    | _ => False
  | .iadd => match st with
    | .int y :: .int x :: r => K (pc + 1) lv (.int (x + y) :: r) M
    | _ => False
  | .isub => match st with
    | .int y :: .int x :: r => K (pc + 1) lv (.int (x - y) :: r) M
    | _ => False
  | .imul => match st with
    | .int y :: .int x :: r => K (pc + 1) lv (.int (x * y) :: r) M
    | _ => False
  | .iand => match st with
    | .int y :: .int x :: r => K (pc + 1) lv (.int (x &&& y) :: r) M
    | _ => False
  | .ineg => match st with
    | .int x :: r => K (pc + 1) lv (.int (-x) :: r) M
    | _ => False
  | .ladd => match st with
    | .long y :: .long x :: r => K (pc + 1) lv (.long (x + y) :: r) M
    | _ => False
  | .lsub => match st with
    | .long y :: .long x :: r => K (pc + 1) lv (.long (x - y) :: r) M
    | _ => False
  | .lmul => match st with
    | .long y :: .long x :: r => K (pc + 1) lv (.long (x * y) :: r) M
    | _ => False
  | .ldiv => match st with
    | .long y :: .long x :: r => ¬ y = 0 ∧ K (pc + 1) lv (.long (x / y) :: r) M
    | _ => False
  | .lrem => match st with
    | .long y :: .long x :: r => ¬ y = 0 ∧ K (pc + 1) lv (.long (x - x / y * y) :: r) M
    | _ => False
  | .lcmp => match st with
    | .long y :: .long x :: r => K (pc + 1) lv (.int (lg_cmp x y) :: r) M
    | _ => False
  | .i2l => match st with
    | .int x :: r => K (pc + 1) lv (.long x.toInt64 :: r) M
    | _ => False
  | .l2i => match st with
    | .long x :: r => K (pc + 1) lv (.int x.toInt32 :: r) M
    | _ => False
  | .goto f => K (jt pc f) lv st M
  | .ifCond c f => match st with
    | .int x :: r => (icc c x 0 → K (jt pc f) lv r M) ∧ (¬ icc c x 0 → K (pc + 3) lv r M)
    | _ => False
  | .if_icmp c f => match st with
    | .int y :: .int x :: r => (icc c x y → K (jt pc f) lv r M) ∧ (¬ icc c x y → K (pc + 3) lv r M)
    | _ => False
  | .tableswitch d lo hi offs => match st with
    | .int x :: r => K (jt pc (swt d lo hi offs x.toInt)) lv r M
    | _ => False
  | .lookupswitch d ps => match st with
    | .int x :: r => K (jt pc (Op.lookupswitch.offset ps.toList d x.toInt)) lv r M
    | _ => False
  | .aload_n i => match lv.lookup i.val with
    | some (.ref x) => K (pc + 1) lv (.ref x :: st) M
    | _ => False
  | .dup => match st with
    | .ref x :: r => K (pc + 1) lv (.ref x :: .ref x :: r) M
    | _ => False
  | .dup2 => match st with
    | .int y :: .ref x :: r => K (pc + 1) lv (.int y :: .ref x :: .int y :: .ref x :: r) M
    | _ => False
  | .getfield i => match fres oc i, st with
    | some (9, k, _), .ref 0 :: r => match rK.getD k 9 with
      | 0 => K (pc + 3) lv (.int (M k 0) :: r) M
      | 1 => K (pc + 3) lv (.int (M k 0) :: r) M
      | 2 => K (pc + 3) lv (.ref k :: r) M
      | 3 => K (pc + 3) lv (.ref k :: r) M
      | _ => False
    | _, _ => False
  | .putfield i => match fres oc i, st with
    | some (9, k, _), .int x :: .ref 0 :: r => match rK.getD k 9 with
      | 0 => K (pc + 3) lv r (up2 M k 0 x)
      | 1 => (x = 0 ∨ x = 1) ∧ K (pc + 3) lv r (up2 M k 0 x)
      | _ => False
    | _, _ => False
  | .iaload => match st with
    | .int i :: .ref k :: r => match rK.getD k 9 with
      | 2 => vp_in i (rN.getD k 0) ∧ K (pc + 1) lv (.int (M k i.toNatClampNeg) :: r) M
      | _ => False
    | _ => False
  | .baload => match st with
    | .int i :: .ref k :: r => match rK.getD k 9 with
      | 3 => vp_in i (rN.getD k 0) ∧ K (pc + 1) lv (.int (M k i.toNatClampNeg) :: r) M
      | _ => False
    | _ => False
  | .iastore => match st with
    | .int x :: .int i :: .ref k :: r => match rK.getD k 9 with
      | 2 => vp_in i (rN.getD k 0) ∧ K (pc + 1) lv r (up2 M k i.toNatClampNeg x)
      | _ => False
    | _ => False
  | .bastore => match st with
    | .int x :: .int i :: .ref k :: r => match rK.getD k 9 with
      | 3 => vp_in i (rN.getD k 0) ∧ (x = 0 ∨ x = 1) ∧ K (pc + 1) lv r (up2 M k i.toNatClampNeg x)
      | _ => False
    | _ => False
  | .ireturn => match st, rt with
    | [.int x], some ty => fitV ty (.int x) ∧ Qr (some (.int x)) M
    | _, _ => False
  | .return_ => match st, rt with
    | [], none => Qr none M
    | _, _ => False
  | .invokevirtual i => match mres oc i with
    | some (0, j, _) => match prog[j]? with
      | some md => md.2.2.2.2.2.1 = 9 ∧ st[md.2.2.2.2.1]? = some (.ref 0) ∧ wgt (st.drop (md.2.2.2.2.1 + 1)) ≤ 8 ∧ ∃ (v : Option Value) (M1 : Mem), (∀ a, v ≠ some (.ref a)) ∧ C j (.ref 0 :: (st.take md.2.2.2.2.1).reverse) M v M1 ∧ K (pc + 3) lv (v.toList ++ st.drop (md.2.2.2.2.1 + 1)) M1
      | none => False
    | _ => False
  | .invokestatic i => match mres oc i with
    | some (1, j, _) => match prog[j]? with
      | some md => md.2.2.2.2.1 ≤ st.length ∧ wgt (st.drop md.2.2.2.2.1) ≤ 8 ∧ ∃ (v : Option Value) (M1 : Mem), (∀ a, v ≠ some (.ref a)) ∧ C j (st.take md.2.2.2.2.1).reverse M v M1 ∧ K (pc + 3) lv (v.toList ++ st.drop md.2.2.2.2.1) M1
      | none => False
    | _ => False
  | _ => False
def wpR (C : Rrel) (t : List (Nat × Instr × Nat)) (oc : Nat) (rt : Option FieldType) (Qr : Option Value → Mem → Prop) : Nat → Nat → Lv → List Value → Mem → Prop
  | 0, _, _, _, _ => False
  | n + 1, pc, lv, st, M => match t.lookup pc with
    | some q => insR C oc rt Qr (wpR C t oc rt Qr n) pc lv st M q.1
    | none => False
/-- a call of the reference's, d deep at the most -/
def CalR : Nat → Rrel
  | 0, _, _, _, _, _ => False
  | d + 1, j, av, M, v, M1 => match prog[j]? with
    | some md => (lg_sl av).length ≤ md.2.2.1 ∧ ∃ n, wpR (CalR d) md.2.2.2.2.2.2.2 md.2.2.2.2.2.1 md.2.2.2.1 (fun v' M' => v' = v ∧ M' = M1) n 0 (lv_args 0 av) [] M
    | none => False
theorem rty_0 {k : Nat} (h : rK.getD k 9 = 0) : (fTy.getD 9 []).getD k .int = .int := by
  have h1 : (List.range 54).all (fun k => decide (rK.getD k 9 = 0 → (fTy.getD 9 []).getD k .int = .int)) = true := by decide +kernel
  by_cases hk : k < 54
  · exact of_decide_eq_true (List.all_eq_true.mp h1 k (List.mem_range.mpr hk)) h
  · rw [List.getD_eq_getElem?_getD, List.getElem?_eq_none (by show 54 ≤ k; omega)] at h
    cases h
theorem rty_1 {k : Nat} (h : rK.getD k 9 = 1) : (fTy.getD 9 []).getD k .int = .boolean := by
  have h1 : (List.range 54).all (fun k => decide (rK.getD k 9 = 1 → (fTy.getD 9 []).getD k .int = .boolean)) = true := by decide +kernel
  by_cases hk : k < 54
  · exact of_decide_eq_true (List.all_eq_true.mp h1 k (List.mem_range.mpr hk)) h
  · rw [List.getD_eq_getElem?_getD, List.getElem?_eq_none (by show 54 ≤ k; omega)] at h
    cases h
end
section
/-! ===== the reference's engine is sound ===== -/
def shv (m0 : Nat) : Value → Value
  | .ref k => .ref (m0 + rO.getD k 0)
  | v => v
def shL (m0 : Nat) (lv : Lv) : Lv := lv.map (fun q => (q.1, shv m0 q.2))
theorem shv_cat (m0 : Nat) (v : Value) : (shv m0 v).category = v.category := by cases v <;> rfl
theorem shL_lk (m0 i : Nat) : ∀ lv : Lv, (shL m0 lv).lookup i = (lv.lookup i).map (shv m0)
  | [] => rfl
  | (a, v) :: l => by
    show List.lookup i ((a, shv m0 v) :: shL m0 l) = _
    rw [List.lookup_cons, List.lookup_cons, shL_lk m0 i l]
    cases (i == a) <;> rfl
theorem shL_fil (m0 : Nat) (f g : Nat × Value → Bool) (h : ∀ a v, g (a, shv m0 v) = f (a, v)) : ∀ lv : Lv, (shL m0 lv).filter g = shL m0 (lv.filter f)
  | [] => rfl
  | (a, v) :: l => by
    show List.filter g ((a, shv m0 v) :: shL m0 l) = _
    rw [List.filter_cons, List.filter_cons, h a v, shL_fil m0 f g h l]
    cases f (a, v) <;> rfl
theorem shL_lvs (m0 i : Nat) (v : Value) (lv : Lv) : shL m0 (lvs i v lv) = lvs i (shv m0 v) (shL m0 lv) := by
  unfold lvs
  rw [shL_fil m0 (fun q => !(q.1 == i) && !(q.1 + 1 == i && q.2.category == 2)) _ (fun a v => by dsimp only; rw [shv_cat])]
  rfl
theorem shL_lvl (m0 i : Nat) (v : Value) (lv : Lv) : shL m0 (lvl i v lv) = lvl i (shv m0 v) (shL m0 lv) := by
  unfold lvl
  rw [shL_fil m0 (fun q => !(q.1 == i) && (!(q.1 == i + 1) && !(q.1 + 1 == i && q.2.category == 2))) _ (fun a v => by dsimp only; rw [shv_cat])]
  rfl
theorem shv_wgt (m0 : Nat) (r : List Value) : wgt (r.map (shv m0)) = wgt r := by
  unfold wgt
  rw [List.map_map]
  congr 1
  apply List.map_congr_left
  intro v _
  exact shv_cat m0 v
theorem rK_lt {k : Nat} (h : rK.getD k 9 ≠ 9) : k < 54 := by
  apply Classical.byContradiction
  intro hn
  exact h (by rw [List.getD_eq_getElem?_getD, List.getElem?_eq_none (by show 54 ≤ k; omega)]; rfl)
theorem rO_lt (k : Nat) : rO.getD k 0 < 34 := by
  by_cases hk : k < 54
  · have h : (List.range 54).all (fun k => decide (rO.getD k 0 < 34)) = true := by decide +kernel
    exact of_decide_eq_true (List.all_eq_true.mp h k (List.mem_range.mpr hk))
  · rw [List.getD_eq_getElem?_getD, List.getElem?_eq_none (by show 54 ≤ k; omega)]
    decide
theorem v_sh {m0 : Nat} {v : Option Value} (h : ∀ a, v ≠ some (.ref a)) : v.toList.map (shv m0) = v.toList := by
  cases v with
  | none => rfl
  | some w => cases w <;> first | rfl | exact absurd rfl (h _)
theorem nar_z {x : Int32} (h : x = 0 ∨ x = 1) : vp_nar .boolean x = x := by rcases h with rfl | rfl <;> decide +kernel
set_option maxHeartbeats 4000000 in
set_option maxRecDepth 100000 in
theorem insR_ins {z b L : Nat} {xs : Nat → Int32} {i0 : Nat} {σ : Hp} (hσ : i0 + 34 ≤ σ.length) {C : Rrel} {C' : Crel} {oc : Nat} {rt : Option FieldType} {Qr : Option Value → Mem → Prop} {Qr' : Option Value → Hp → Prop} {K : Nat → Lv → List Value → Mem → Prop} {K' : Nat → Lv → List Value → Hp → Prop} {pc : Nat} {lv : Lv} {st : List Value} {M : Mem} {i : Instr}
    (hC : ∀ j av M v M1, C j av M v M1 → C' j (av.map (shv (z + i0))) (putM z i0 M σ) v (putM z i0 M1 σ)) (hK : ∀ pc lv st M, K pc lv st M → K' pc (shL (z + i0) lv) (st.map (shv (z + i0))) (putM z i0 M σ)) (hQ : ∀ v M, Qr v M → Qr' v (putM z i0 M σ))
    (h : insR C oc rt Qr K pc lv st M i) : ins z b L xs C' oc rt Qr' K' pc (shL (z + i0) lv) (st.map (shv (z + i0))) (putM z i0 M σ) i := by
  cases i
  case ldc i =>
    simp only [insR] at h
    simp only [ins]
    split at h
    · rename_i v ix hk
      rw [hk]
      exact hK _ _ _ _ h
    · exact h.elim
  case ldc2_w i =>
    simp only [insR] at h
    simp only [ins]
    split at h
    · rename_i v ix hk
      rw [hk]
      exact hK _ _ _ _ h
    · exact h.elim
  case iload_n i =>
    simp only [insR] at h
    simp only [ins]
    split at h
    · rename_i x hk
      rw [shL_lk, hk]
      exact hK _ _ _ _ h
    · exact h.elim
  case iload i =>
    simp only [insR] at h
    simp only [ins]
    split at h
    · rename_i x hk
      rw [shL_lk, hk]
      exact hK _ _ _ _ h
    · exact h.elim
  case lload_n i =>
    simp only [insR] at h
    simp only [ins]
    split at h
    · rename_i x hk
      rw [shL_lk, hk]
      exact hK _ _ _ _ h
    · exact h.elim
  case lload i =>
    simp only [insR] at h
    simp only [ins]
    split at h
    · rename_i x hk
      rw [shL_lk, hk]
      exact hK _ _ _ _ h
    · exact h.elim
  case aload_n i =>
    simp only [insR] at h
    simp only [ins]
    split at h
    · rename_i x hk
      rw [shL_lk, hk]
      exact hK _ _ _ _ h
    · exact h.elim
  case istore_n i =>
    simp only [insR] at h
    split at h
    · have h1 := hK _ _ _ _ h
      rw [shL_lvs] at h1
      exact h1
    · exact h.elim
  case istore i =>
    simp only [insR] at h
    split at h
    · have h1 := hK _ _ _ _ h
      rw [shL_lvs] at h1
      exact h1
    · exact h.elim
  case lstore_n i =>
    simp only [insR] at h
    split at h
    · have h1 := hK _ _ _ _ h
      rw [shL_lvl] at h1
      exact h1
    · exact h.elim
  case lstore i =>
    simp only [insR] at h
    split at h
    · have h1 := hK _ _ _ _ h
      rw [shL_lvl] at h1
      exact h1
    · exact h.elim
  case iinc i n =>
    simp only [insR] at h
    simp only [ins]
    split at h
    · rename_i x hk
      have h1 := hK _ _ _ _ h
      rw [shL_lvs] at h1
      rw [shL_lk, hk]
      exact h1
    · exact h.elim
  case dup =>
    simp only [insR] at h
    split at h
    · exact ⟨rfl, hK _ _ _ _ h⟩
    · exact h.elim
  case dup2 =>
    simp only [insR] at h
    split at h
    · exact ⟨rfl, rfl, hK _ _ _ _ h⟩
    · exact h.elim
  case getfield i =>
    simp only [insR] at h
    split at h
    · rename_i k ix r hf
      simp only [ins, hf]
      split at h
      · rename_i hk
        exact ⟨_, _, putM_cel (c := 0) hσ (by decide), mfl_int _ _ k (rK_lt (by rw [hk]; decide)) (Or.inl hk), hK _ _ _ _ h⟩
      · rename_i hk
        exact ⟨_, _, putM_cel (c := 0) hσ (by decide), mfl_int _ _ k (rK_lt (by rw [hk]; decide)) (Or.inr hk), hK _ _ _ _ h⟩
      · rename_i hk
        exact ⟨_, _, putM_cel (c := 0) hσ (by decide), mfl_arr _ _ k (rK_lt (by rw [hk]; decide)) (Or.inl hk), hK _ _ _ _ h⟩
      · rename_i hk
        exact ⟨_, _, putM_cel (c := 0) hσ (by decide), mfl_arr _ _ k (rK_lt (by rw [hk]; decide)) (Or.inr hk), hK _ _ _ _ h⟩
      · exact h.elim
    · exact h.elim
  case putfield i =>
    simp only [insR] at h
    split at h
    · rename_i k ix x r hf
      simp only [ins, hf]
      split at h
      · rename_i hk
        have hk54 := rK_lt (k := k) (by rw [hk]; decide)
        refine ⟨_, putM_cel (c := 0) hσ (by decide), hk54, ?_, ?_⟩
        · have hf9 : (fTy.getD 9 []).getD k .int = .int := rty_0 hk
          rw [hf9]
          trivial
        · rw [show (z + i0 + rO.getD 0 0) = z + i0 + 0 from rfl, show shv (z + i0) (Value.int x) = Value.int x from rfl, putM_upc hσ (by decide) (mcs_int _ M x k hk54 (Or.inl hk))]
          exact hK _ _ _ _ h
      · rename_i hk
        have hk54 := rK_lt (k := k) (by rw [hk]; decide)
        refine ⟨_, putM_cel (c := 0) hσ (by decide), hk54, ?_, ?_⟩
        · have hf9 : (fTy.getD 9 []).getD k .int = .boolean := rty_1 hk
          rw [hf9]
          exact h.1
        · rw [show (z + i0 + rO.getD 0 0) = z + i0 + 0 from rfl, show shv (z + i0) (Value.int x) = Value.int x from rfl, putM_upc hσ (by decide) (mcs_int _ M x k hk54 (Or.inr hk))]
          exact hK _ _ _ _ h.2
      · exact h.elim
    · exact h.elim
  case iaload =>
    simp only [insR] at h
    split at h
    · rename_i i k r
      split at h
      · rename_i hk
        exact ⟨_, _, (putM_cel hσ (rO_lt k)).trans (mcs_at2 _ M k (rK_lt (by rw [hk]; decide)) hk), h.1, hK _ _ _ _ h.2⟩
      · exact h.elim
    · exact h.elim
  case baload =>
    simp only [insR] at h
    split at h
    · rename_i i k r
      split at h
      · rename_i hk
        exact ⟨_, _, Or.inr ((putM_cel hσ (rO_lt k)).trans (mcs_at3 _ M k (rK_lt (by rw [hk]; decide)) hk)), h.1, hK _ _ _ _ h.2⟩
      · exact h.elim
    · exact h.elim
  case iastore =>
    simp only [insR] at h
    split at h
    · rename_i x i k r
      split at h
      · rename_i hk
        have hk54 := rK_lt (k := k) (by rw [hk]; decide)
        refine ⟨_, _, (putM_cel hσ (rO_lt k)).trans (mcs_at2 _ M k hk54 hk), by omega, h.1, ?_⟩
        rw [putM_upc hσ (rO_lt k) (mcs_arr _ M _ x k hk54 hk)]
        exact hK _ _ _ _ h.2
      · exact h.elim
    · exact h.elim
  case bastore =>
    simp only [insR] at h
    split at h
    · rename_i x i k r
      split at h
      · rename_i hk
        have hk54 := rK_lt (k := k) (by rw [hk]; decide)
        refine ⟨_, _, h.1, Or.inr ⟨(putM_cel hσ (rO_lt k)).trans (mcs_at3 _ M k hk54 hk), ?_⟩⟩
        rw [nar_z h.2.1, putM_upc hσ (rO_lt k) (mcs_arz _ M _ x k hk54 hk)]
        exact hK _ _ _ _ h.2.2
      · exact h.elim
    · exact h.elim
  case ireturn =>
    simp only [insR] at h
    split at h
    · exact ⟨h.1, hQ _ _ h.2⟩
    · exact h.elim
  case return_ =>
    simp only [insR] at h
    split at h
    · exact hQ _ _ h
    · exact h.elim
  case ifCond c f =>
    simp only [insR] at h
    split at h
    · exact ⟨fun q => hK _ _ _ _ (h.1 q), fun q => hK _ _ _ _ (h.2 q)⟩
    · exact h.elim
  case if_icmp c f =>
    simp only [insR] at h
    split at h
    · exact ⟨fun q => hK _ _ _ _ (h.1 q), fun q => hK _ _ _ _ (h.2 q)⟩
    · exact h.elim
  case ldiv =>
    simp only [insR] at h
    split at h
    · exact ⟨h.1, hK _ _ _ _ h.2⟩
    · exact h.elim
  case lrem =>
    simp only [insR] at h
    split at h
    · exact ⟨h.1, hK _ _ _ _ h.2⟩
    · exact h.elim
  case invokevirtual i =>
    simp only [insR] at h
    split at h
    · rename_i j ix hm
      split at h
      · rename_i md hp
        obtain ⟨h9, h1, hw, v, M1, hv, hc, h⟩ := h
        simp only [ins, hm, hp]
        refine ⟨z + i0 + 0, mfl (z + i0) M, v, putM z i0 M1 σ, ?_, ?_, ?_, ?_⟩
        · rw [List.getElem?_map, h1]
          rfl
        · rw [h9]
          exact putM_cel (c := 0) hσ (by decide)
        · rw [← List.map_drop, shv_wgt]
          exact hw
        · have h2 := hC _ _ _ _ _ hc
          rw [List.map_cons, List.map_reverse, List.map_take] at h2
          refine ⟨h2, ?_⟩
          have h3 := hK _ _ _ _ h
          rw [List.map_append, v_sh hv, List.map_drop] at h3
          exact h3
      · exact h.elim
    · exact h.elim
  case invokestatic i =>
    simp only [insR] at h
    split at h
    · rename_i j ix hm
      split at h
      · rename_i md hp
        obtain ⟨hsl, hw, v, M1, hv, hc, h⟩ := h
        simp only [ins, hm, hp]
        refine ⟨by decide, v, putM z i0 M1 σ, by rw [List.length_map]; exact hsl, ?_, ?_, ?_⟩
        · rw [← List.map_drop, shv_wgt]
          exact hw
        · have h2 := hC _ _ _ _ _ hc
          rw [List.map_reverse, List.map_take] at h2
          exact h2
        · have h3 := hK _ _ _ _ h
          rw [List.map_append, v_sh hv, List.map_drop] at h3
          exact h3
      · exact h.elim
    · exact h.elim
  all_goals first
    | exact False.elim h
    | exact hK _ _ _ _ h
    | (simp only [insR] at h
       split at h <;> first
        | exact h.elim
        | exact hK _ _ _ _ h)
theorem wpR_wp {z b L : Nat} {xs : Nat → Int32} {i0 : Nat} {σ : Hp} (hσ : i0 + 34 ≤ σ.length) {C : Rrel} {C' : Crel} {t : List (Nat × Instr × Nat)} {oc : Nat} {rt : Option FieldType} {Qr : Option Value → Mem → Prop} {Qr' : Option Value → Hp → Prop}
    (hC : ∀ j av M v M1, C j av M v M1 → C' j (av.map (shv (z + i0))) (putM z i0 M σ) v (putM z i0 M1 σ)) (hQ : ∀ v M, Qr v M → Qr' v (putM z i0 M σ)) :
    ∀ (n pc : Nat) (lv : Lv) (st : List Value) (M : Mem), wpR C t oc rt Qr n pc lv st M → wp z b L xs C' t oc rt Qr' n pc (shL (z + i0) lv) (st.map (shv (z + i0))) (putM z i0 M σ)
  | 0, _, _, _, _, h => h
  | n + 1, pc, lv, st, M, h => by
    simp only [wpR] at h
    simp only [wp]
    split at h
    · rename_i q hq
      rw [hq]
      exact insR_ins hσ hC (fun pc lv st M h => wpR_wp hσ hC hQ n pc lv st M h) hQ h
    · exact h.elim
theorem lv_args_sh (m0 : Nat) : ∀ (i : Nat) (av : List Value), lv_args i (av.map (shv m0)) = shL m0 (lv_args i av)
  | i, [] => rfl
  | i, v :: l => by
    rw [List.map_cons]
    simp only [lv_args, shv_cat]
    split <;> (rw [lv_args_sh m0 _ l]; rfl)
theorem lg_sl_sh (m0 : Nat) (av : List Value) : (lg_sl (av.map (shv m0))).length = (lg_sl av).length := by
  induction av with
  | nil => rfl
  | cons v l ih =>
    rw [List.map_cons]
    cases v <;> simp [lg_sl, shv, Value.category] at ih ⊢ <;> omega
/-- every call that the reference's engine finds -/
theorem CalR_Cal {z b L : Nat} {xs : Nat → Int32} {i0 : Nat} {σ : Hp} (hσ : i0 + 34 ≤ σ.length) : ∀ (d j : Nat) (av : List Value) (M : Mem) (v : Option Value) (M1 : Mem), CalR d j av M v M1 → Cal z b L xs d j (av.map (shv (z + i0))) (putM z i0 M σ) v (putM z i0 M1 σ)
  | 0, _, _, _, _, _, h => h
  | d + 1, j, av, M, v, M1, h => by
    simp only [CalR] at h
    simp only [Cal]
    split at h
    · rename_i md hp
      rw [hp]
      obtain ⟨h1, n, h⟩ := h
      refine ⟨by rw [lg_sl_sh]; exact h1, n, ?_⟩
      have h2 := wpR_wp (z := z) (b := b) (L := L) (xs := xs) hσ (C' := Cal z b L xs d) (Qr' := fun v' σ' => v' = v ∧ σ' = putM z i0 M1 σ) (fun j av M v M1 h => CalR_Cal hσ d j av M v M1 h) (fun v' M' q => ⟨q.1, by rw [q.2]⟩) n 0 (lv_args 0 av) [] M h
      rw [← lv_args_sh] at h2
      exact h2
    · exact h.elim
end
section
theorem rN_le80 (k : Nat) : rN.getD k 0 ≤ 80000 := by
  by_cases hk : k < 54
  · have h : (List.range 54).all (fun k => decide (rN.getD k 0 ≤ 80000)) = true := by decide +kernel
    exact of_decide_eq_true (List.all_eq_true.mp h k (List.mem_range.mpr hk))
  · rw [List.getD_eq_getElem?_getD, List.getElem?_eq_none (by show 54 ≤ k; omega)]
    decide
theorem rN_le (k : Nat) : rN.getD k 0 ≤ 2 ^ 31 := Nat.le_trans (rN_le80 k) (by decide)
/-! ===== rules of the reference's engine, without counts ===== -/
def WR (C : Rrel) (t : List (Nat × Instr × Nat)) (oc : Nat) (rt : Option FieldType) (Qr : Option Value → Mem → Prop) (pc : Nat) (lv : Lv) (st : List Value) (M : Mem) : Prop := ∃ n, wpR C t oc rt Qr n pc lv st M
section RR
variable {C : Rrel} {t : List (Nat × Instr × Nat)} {oc : Nat} {rt : Option FieldType} {Qr : Option Value → Mem → Prop} {pc : Nat} {lv : Lv} {st r : List Value} {M : Mem} {len : Nat}
theorem WR_of {q : Instr × Nat} (h : t.lookup pc = some q) {n : Nat} (k : insR C oc rt Qr (wpR C t oc rt Qr n) pc lv st M q.1) : WR C t oc rt Qr pc lv st M := ⟨n + 1, by simp only [wpR, h]; exact k⟩
theorem R_iconst {v : Int} {y : Int32} (h : t.lookup pc = some (.iconst v, len)) (hv : Int32.ofInt v = y) (k : WR C t oc rt Qr (pc + 1) lv (.int y :: st) M) : WR C t oc rt Qr pc lv st M := by
  subst hv
  obtain ⟨n, k⟩ := k
  exact WR_of h k
theorem R_bipush {v : Int} {y : Int32} (h : t.lookup pc = some (.bipush v, len)) (hv : (Int8.ofInt v).toInt32 = y) (k : WR C t oc rt Qr (pc + 2) lv (.int y :: st) M) : WR C t oc rt Qr pc lv st M := by
  subst hv
  obtain ⟨n, k⟩ := k
  exact WR_of h k
theorem R_sipush {v : Int} {y : Int32} (h : t.lookup pc = some (.sipush v, len)) (hv : (Int16.ofInt v).toInt32 = y) (k : WR C t oc rt Qr (pc + 3) lv (.int y :: st) M) : WR C t oc rt Qr pc lv st M := by
  subst hv
  obtain ⟨n, k⟩ := k
  exact WR_of h k
theorem R_lconst {v : Fin 2} (h : t.lookup pc = some (.lconst v, len)) (k : WR C t oc rt Qr (pc + 1) lv (.long (Int64.ofNat v.val) :: st) M) : WR C t oc rt Qr pc lv st M := by
  obtain ⟨n, k⟩ := k
  exact WR_of h k
theorem R_ldc {i ix : Nat} {v : Int32} (h : t.lookup pc = some (.ldc i, len)) (hk : kres oc i = some (v, ix)) (k : WR C t oc rt Qr (pc + 2) lv (.int v :: st) M) : WR C t oc rt Qr pc lv st M := by
  obtain ⟨n, k⟩ := k
  refine WR_of h (n := n) ?_
  simp only [insR, hk]
  exact k
theorem R_ldc2_w {i ix : Nat} {v : Int64} (h : t.lookup pc = some (.ldc2_w i, len)) (hk : jres oc i = some (v, ix)) (k : WR C t oc rt Qr (pc + 3) lv (.long v :: st) M) : WR C t oc rt Qr pc lv st M := by
  obtain ⟨n, k⟩ := k
  refine WR_of h (n := n) ?_
  simp only [insR, hk]
  exact k
theorem R_iload_n {i : Fin 4} {x : Int32} (h : t.lookup pc = some (.iload_n i, len)) (hl : lv.lookup i.val = some (.int x)) (k : WR C t oc rt Qr (pc + 1) lv (.int x :: st) M) : WR C t oc rt Qr pc lv st M := by
  obtain ⟨n, k⟩ := k
  refine WR_of h (n := n) ?_
  simp only [insR, hl]
  exact k
theorem R_iload {i : Nat} {x : Int32} (h : t.lookup pc = some (.iload i, len)) (hl : lv.lookup i = some (.int x)) (k : WR C t oc rt Qr (pc + 2) lv (.int x :: st) M) : WR C t oc rt Qr pc lv st M := by
  obtain ⟨n, k⟩ := k
  refine WR_of h (n := n) ?_
  simp only [insR, hl]
  exact k
theorem R_lload_n {i : Fin 4} {x : Int64} (h : t.lookup pc = some (.lload_n i, len)) (hl : lv.lookup i.val = some (.long x)) (k : WR C t oc rt Qr (pc + 1) lv (.long x :: st) M) : WR C t oc rt Qr pc lv st M := by
  obtain ⟨n, k⟩ := k
  refine WR_of h (n := n) ?_
  simp only [insR, hl]
  exact k
theorem R_lload {i : Nat} {x : Int64} (h : t.lookup pc = some (.lload i, len)) (hl : lv.lookup i = some (.long x)) (k : WR C t oc rt Qr (pc + 2) lv (.long x :: st) M) : WR C t oc rt Qr pc lv st M := by
  obtain ⟨n, k⟩ := k
  refine WR_of h (n := n) ?_
  simp only [insR, hl]
  exact k
theorem R_aload_n {i : Fin 4} {x : Nat} (h : t.lookup pc = some (.aload_n i, len)) (hl : lv.lookup i.val = some (.ref x)) (k : WR C t oc rt Qr (pc + 1) lv (.ref x :: st) M) : WR C t oc rt Qr pc lv st M := by
  obtain ⟨n, k⟩ := k
  refine WR_of h (n := n) ?_
  simp only [insR, hl]
  exact k
theorem R_istore_n {i : Fin 4} {x : Int32} {lv' : Lv} (h : t.lookup pc = some (.istore_n i, len)) (hl : lvs i.val (.int x) lv = lv') (k : WR C t oc rt Qr (pc + 1) lv' r M) : WR C t oc rt Qr pc lv (.int x :: r) M := by
  subst hl
  obtain ⟨n, k⟩ := k
  exact WR_of h k
theorem R_istore {i : Nat} {x : Int32} {lv' : Lv} (h : t.lookup pc = some (.istore i, len)) (hl : lvs i (.int x) lv = lv') (k : WR C t oc rt Qr (pc + 2) lv' r M) : WR C t oc rt Qr pc lv (.int x :: r) M := by
  subst hl
  obtain ⟨n, k⟩ := k
  exact WR_of h k
theorem R_lstore_n {i : Fin 4} {x : Int64} {lv' : Lv} (h : t.lookup pc = some (.lstore_n i, len)) (hl : lvl i.val (.long x) lv = lv') (k : WR C t oc rt Qr (pc + 1) lv' r M) : WR C t oc rt Qr pc lv (.long x :: r) M := by
  subst hl
  obtain ⟨n, k⟩ := k
  exact WR_of h k
theorem R_lstore {i : Nat} {x : Int64} {lv' : Lv} (h : t.lookup pc = some (.lstore i, len)) (hl : lvl i (.long x) lv = lv') (k : WR C t oc rt Qr (pc + 2) lv' r M) : WR C t oc rt Qr pc lv (.long x :: r) M := by
  subst hl
  obtain ⟨n, k⟩ := k
  exact WR_of h k
theorem R_iinc {i : Nat} {v : Int} {x y : Int32} {lv' : Lv} (h : t.lookup pc = some (.iinc i v, len)) (hx : lv.lookup i = some (.int x)) (hy : x + Int32.ofInt v = y) (hl : lvs i (.int y) lv = lv') (k : WR C t oc rt Qr (pc + 3) lv' st M) : WR C t oc rt Qr pc lv st M := by
  subst hy; subst hl
  obtain ⟨n, k⟩ := k
  refine WR_of h (n := n) ?_
  simp only [insR, hx]
  exact k
theorem R_iadd {x y : Int32} (h : t.lookup pc = some (.iadd, len)) (k : WR C t oc rt Qr (pc + 1) lv (.int (x + y) :: r) M) : WR C t oc rt Qr pc lv (.int y :: .int x :: r) M := by
  obtain ⟨n, k⟩ := k
  exact WR_of h k
theorem R_isub {x y : Int32} (h : t.lookup pc = some (.isub, len)) (k : WR C t oc rt Qr (pc + 1) lv (.int (x - y) :: r) M) : WR C t oc rt Qr pc lv (.int y :: .int x :: r) M := by
  obtain ⟨n, k⟩ := k
  exact WR_of h k
theorem R_imul {x y : Int32} (h : t.lookup pc = some (.imul, len)) (k : WR C t oc rt Qr (pc + 1) lv (.int (x * y) :: r) M) : WR C t oc rt Qr pc lv (.int y :: .int x :: r) M := by
  obtain ⟨n, k⟩ := k
  exact WR_of h k
theorem R_ladd {x y : Int64} (h : t.lookup pc = some (.ladd, len)) (k : WR C t oc rt Qr (pc + 1) lv (.long (x + y) :: r) M) : WR C t oc rt Qr pc lv (.long y :: .long x :: r) M := by
  obtain ⟨n, k⟩ := k
  exact WR_of h k
theorem R_lsub {x y : Int64} (h : t.lookup pc = some (.lsub, len)) (k : WR C t oc rt Qr (pc + 1) lv (.long (x - y) :: r) M) : WR C t oc rt Qr pc lv (.long y :: .long x :: r) M := by
  obtain ⟨n, k⟩ := k
  exact WR_of h k
theorem R_lmul {x y : Int64} (h : t.lookup pc = some (.lmul, len)) (k : WR C t oc rt Qr (pc + 1) lv (.long (x * y) :: r) M) : WR C t oc rt Qr pc lv (.long y :: .long x :: r) M := by
  obtain ⟨n, k⟩ := k
  exact WR_of h k
theorem R_ldiv {x y : Int64} (h : t.lookup pc = some (.ldiv, len)) (hy : ¬ y = 0) (k : WR C t oc rt Qr (pc + 1) lv (.long (x / y) :: r) M) : WR C t oc rt Qr pc lv (.long y :: .long x :: r) M := by
  obtain ⟨n, k⟩ := k
  exact WR_of h ⟨hy, k⟩
theorem R_lrem {x y : Int64} (h : t.lookup pc = some (.lrem, len)) (hy : ¬ y = 0) (k : WR C t oc rt Qr (pc + 1) lv (.long (x - x / y * y) :: r) M) : WR C t oc rt Qr pc lv (.long y :: .long x :: r) M := by
  obtain ⟨n, k⟩ := k
  exact WR_of h ⟨hy, k⟩
theorem R_lcmp {x y : Int64} (h : t.lookup pc = some (.lcmp, len)) (k : WR C t oc rt Qr (pc + 1) lv (.int (lg_cmp x y) :: r) M) : WR C t oc rt Qr pc lv (.long y :: .long x :: r) M := by
  obtain ⟨n, k⟩ := k
  exact WR_of h k
theorem R_i2l {x : Int32} (h : t.lookup pc = some (.i2l, len)) (k : WR C t oc rt Qr (pc + 1) lv (.long x.toInt64 :: r) M) : WR C t oc rt Qr pc lv (.int x :: r) M := by
  obtain ⟨n, k⟩ := k
  exact WR_of h k
theorem R_l2i {x : Int64} (h : t.lookup pc = some (.l2i, len)) (k : WR C t oc rt Qr (pc + 1) lv (.int x.toInt32 :: r) M) : WR C t oc rt Qr pc lv (.long x :: r) M := by
  obtain ⟨n, k⟩ := k
  exact WR_of h k
theorem R_dup {x : Nat} (h : t.lookup pc = some (.dup, len)) (k : WR C t oc rt Qr (pc + 1) lv (.ref x :: .ref x :: r) M) : WR C t oc rt Qr pc lv (.ref x :: r) M := by
  obtain ⟨n, k⟩ := k
  exact WR_of h k
theorem R_dup2 {x : Nat} {y : Int32} (h : t.lookup pc = some (.dup2, len)) (k : WR C t oc rt Qr (pc + 1) lv (.int y :: .ref x :: .int y :: .ref x :: r) M) : WR C t oc rt Qr pc lv (.int y :: .ref x :: r) M := by
  obtain ⟨n, k⟩ := k
  exact WR_of h k
theorem R_goto {f : Int} {pc' : Nat} (h : t.lookup pc = some (.goto f, len)) (hp : jt pc f = pc') (k : WR C t oc rt Qr pc' lv st M) : WR C t oc rt Qr pc lv st M := by
  subst hp
  obtain ⟨n, k⟩ := k
  exact WR_of h k
theorem R_if {c : ClassFile.Cond} {f : Int} {x : Int32} {pc' : Nat} (h : t.lookup pc = some (.ifCond c f, len)) (hp : jt pc f = pc') (k1 : icc c x 0 → WR C t oc rt Qr pc' lv r M) (k2 : ¬ icc c x 0 → WR C t oc rt Qr (pc + 3) lv r M) : WR C t oc rt Qr pc lv (.int x :: r) M := by
  subst hp
  by_cases q : icc c x 0
  · obtain ⟨n, k⟩ := k1 q
    exact WR_of h (n := n) ⟨fun _ => k, fun q' => absurd q q'⟩
  · obtain ⟨n, k⟩ := k2 q
    exact WR_of h (n := n) ⟨fun q' => absurd q' q, fun _ => k⟩
theorem R_icmp {c : ClassFile.Cond} {f : Int} {x y : Int32} {pc' : Nat} (h : t.lookup pc = some (.if_icmp c f, len)) (hp : jt pc f = pc') (k1 : icc c x y → WR C t oc rt Qr pc' lv r M) (k2 : ¬ icc c x y → WR C t oc rt Qr (pc + 3) lv r M) : WR C t oc rt Qr pc lv (.int y :: .int x :: r) M := by
  subst hp
  by_cases q : icc c x y
  · obtain ⟨n, k⟩ := k1 q
    exact WR_of h (n := n) ⟨fun _ => k, fun q' => absurd q q'⟩
  · obtain ⟨n, k⟩ := k2 q
    exact WR_of h (n := n) ⟨fun q' => absurd q' q, fun _ => k⟩
theorem R_table {df lo hi : Int} {offs : Array Int} {x : Int32} {pc' : Nat} (h : t.lookup pc = some (.tableswitch df lo hi offs, len)) (hp : jt pc (swt df lo hi offs x.toInt) = pc') (k : WR C t oc rt Qr pc' lv r M) : WR C t oc rt Qr pc lv (.int x :: r) M := by
  subst hp
  obtain ⟨n, k⟩ := k
  exact WR_of h k
theorem R_getI {i k ix : Nat} (h : t.lookup pc = some (.getfield i, len)) (hf : fres oc i = some (9, k, ix)) (hk : rK.getD k 9 = 0 ∨ rK.getD k 9 = 1) (kk : WR C t oc rt Qr (pc + 3) lv (.int (M k 0) :: r) M) : WR C t oc rt Qr pc lv (.ref 0 :: r) M := by
  obtain ⟨n, kk⟩ := kk
  refine WR_of h (n := n) ?_
  rcases hk with hk | hk <;> (simp only [insR, hf, hk]; exact kk)
theorem R_getA {i k ix : Nat} (h : t.lookup pc = some (.getfield i, len)) (hf : fres oc i = some (9, k, ix)) (hk : rK.getD k 9 = 2 ∨ rK.getD k 9 = 3) (kk : WR C t oc rt Qr (pc + 3) lv (.ref k :: r) M) : WR C t oc rt Qr pc lv (.ref 0 :: r) M := by
  obtain ⟨n, kk⟩ := kk
  refine WR_of h (n := n) ?_
  rcases hk with hk | hk <;> (simp only [insR, hf, hk]; exact kk)
theorem R_put {i k ix : Nat} {x : Int32} (h : t.lookup pc = some (.putfield i, len)) (hf : fres oc i = some (9, k, ix)) (hk : rK.getD k 9 = 0) (kk : WR C t oc rt Qr (pc + 3) lv r (up2 M k 0 x)) : WR C t oc rt Qr pc lv (.int x :: .ref 0 :: r) M := by
  obtain ⟨n, kk⟩ := kk
  refine WR_of h (n := n) ?_
  simp only [insR, hf, hk]
  exact kk
theorem R_putZ {i k ix : Nat} {x : Int32} (h : t.lookup pc = some (.putfield i, len)) (hf : fres oc i = some (9, k, ix)) (hk : rK.getD k 9 = 1) (hx : x = 0 ∨ x = 1) (kk : WR C t oc rt Qr (pc + 3) lv r (up2 M k 0 x)) : WR C t oc rt Qr pc lv (.int x :: .ref 0 :: r) M := by
  obtain ⟨n, kk⟩ := kk
  refine WR_of h (n := n) ?_
  simp only [insR, hf, hk]
  exact ⟨hx, kk⟩
theorem R_iald {k : Nat} {i : Int32} {a : Nat} (h : t.lookup pc = some (.iaload, len)) (hk : rK.getD k 9 = 2) (hi : i = nI a) (ha : a < rN.getD k 0) (kk : WR C t oc rt Qr (pc + 1) lv (.int (M k a) :: r) M) : WR C t oc rt Qr pc lv (.int i :: .ref k :: r) M := by
  subst hi
  have h31 : a < 2 ^ 31 := Nat.lt_of_lt_of_le ha (rN_le k)
  obtain ⟨n, kk⟩ := kk
  refine WR_of h (n := n) ?_
  simp only [insR, hk]
  exact ⟨vp_in_nI ha (Nat.lt_of_le_of_lt (rN_le80 k) (by decide)), by rw [nI_clamp h31]; exact kk⟩
theorem R_bald {k : Nat} {i : Int32} {a : Nat} (h : t.lookup pc = some (.baload, len)) (hk : rK.getD k 9 = 3) (hi : i = nI a) (ha : a < rN.getD k 0) (kk : WR C t oc rt Qr (pc + 1) lv (.int (M k a) :: r) M) : WR C t oc rt Qr pc lv (.int i :: .ref k :: r) M := by
  subst hi
  have h31 : a < 2 ^ 31 := Nat.lt_of_lt_of_le ha (rN_le k)
  obtain ⟨n, kk⟩ := kk
  refine WR_of h (n := n) ?_
  simp only [insR, hk]
  exact ⟨vp_in_nI ha (Nat.lt_of_le_of_lt (rN_le80 k) (by decide)), by rw [nI_clamp h31]; exact kk⟩
theorem R_iast {k : Nat} {x i : Int32} {a : Nat} (h : t.lookup pc = some (.iastore, len)) (hk : rK.getD k 9 = 2) (hi : i = nI a) (ha : a < rN.getD k 0) (kk : WR C t oc rt Qr (pc + 1) lv r (up2 M k a x)) : WR C t oc rt Qr pc lv (.int x :: .int i :: .ref k :: r) M := by
  subst hi
  have h31 : a < 2 ^ 31 := Nat.lt_of_lt_of_le ha (rN_le k)
  obtain ⟨n, kk⟩ := kk
  refine WR_of h (n := n) ?_
  simp only [insR, hk]
  exact ⟨vp_in_nI ha (Nat.lt_of_le_of_lt (rN_le80 k) (by decide)), by rw [nI_clamp h31]; exact kk⟩
theorem R_bast {k : Nat} {x i : Int32} {a : Nat} (h : t.lookup pc = some (.bastore, len)) (hk : rK.getD k 9 = 3) (hi : i = nI a) (ha : a < rN.getD k 0) (hx : x = 0 ∨ x = 1) (kk : WR C t oc rt Qr (pc + 1) lv r (up2 M k a x)) : WR C t oc rt Qr pc lv (.int x :: .int i :: .ref k :: r) M := by
  subst hi
  have h31 : a < 2 ^ 31 := Nat.lt_of_lt_of_le ha (rN_le k)
  obtain ⟨n, kk⟩ := kk
  refine WR_of h (n := n) ?_
  simp only [insR, hk]
  exact ⟨vp_in_nI ha (Nat.lt_of_le_of_lt (rN_le80 k) (by decide)), hx, by rw [nI_clamp h31]; exact kk⟩
theorem R_iret {x : Int32} {ty : FieldType} (h : t.lookup pc = some (.ireturn, len)) (hr : rt = some ty) (hf : fitV ty (.int x)) (k : Qr (some (.int x)) M) : WR C t oc rt Qr pc lv [.int x] M := by
  subst hr
  exact WR_of h (n := 0) ⟨hf, k⟩
theorem R_ret (h : t.lookup pc = some (.return_, len)) (hr : rt = none) (k : Qr none M) : WR C t oc rt Qr pc lv [] M := by
  subst hr
  exact WR_of h (n := 0) k
theorem R_virt {i j ix : Nat} {md : MD} {v : Option Value} {M1 : Mem} {av rest : List Value} (h : t.lookup pc = some (.invokevirtual i, len)) (hm : mres oc i = some (0, j, ix)) (hp : prog[j]? = some md) (h9 : md.2.2.2.2.2.1 = 9) (h0 : st[md.2.2.2.2.1]? = some (.ref 0)) (hav : .ref 0 :: (st.take md.2.2.2.2.1).reverse = av) (hrest : st.drop (md.2.2.2.2.1 + 1) = rest) (hw : wgt rest ≤ 8) (hv : ∀ a, v ≠ some (.ref a)) (hc : C j av M v M1) (k : WR C t oc rt Qr (pc + 3) lv (v.toList ++ rest) M1) : WR C t oc rt Qr pc lv st M := by
  subst hav; subst hrest
  obtain ⟨n, k⟩ := k
  refine WR_of h (n := n) ?_
  simp only [insR, hm, hp]
  exact ⟨h9, h0, hw, v, M1, hv, hc, k⟩
theorem R_stat {i j ix : Nat} {md : MD} {v : Option Value} {M1 : Mem} {av rest : List Value} (h : t.lookup pc = some (.invokestatic i, len)) (hm : mres oc i = some (1, j, ix)) (hp : prog[j]? = some md) (hln : md.2.2.2.2.1 ≤ st.length) (hav : (st.take md.2.2.2.2.1).reverse = av) (hrest : st.drop md.2.2.2.2.1 = rest) (hw : wgt rest ≤ 8) (hv : ∀ a, v ≠ some (.ref a)) (hc : C j av M v M1) (k : WR C t oc rt Qr (pc + 3) lv (v.toList ++ rest) M1) : WR C t oc rt Qr pc lv st M := by
  subst hav; subst hrest
  obtain ⟨n, k⟩ := k
  refine WR_of h (n := n) ?_
  simp only [insR, hm, hp]
  exact ⟨hln, hw, v, M1, hv, hc, k⟩
theorem R_iaddN {a b : Nat} (h : t.lookup pc = some (.iadd, len)) (k : WR C t oc rt Qr (pc + 1) lv (.int (nI (a + b)) :: r) M) : WR C t oc rt Qr pc lv (.int (nI b) :: .int (nI a) :: r) M := R_iadd h (by rw [nI_add]; exact k)
theorem R_imulN {a b : Nat} (h : t.lookup pc = some (.imul, len)) (k : WR C t oc rt Qr (pc + 1) lv (.int (nI (a * b)) :: r) M) : WR C t oc rt Qr pc lv (.int (nI b) :: .int (nI a) :: r) M := R_imul h (by rw [pk_mul]; exact k)
theorem R_isubN {a b : Nat} (h : t.lookup pc = some (.isub, len)) (hb : b ≤ a) (k : WR C t oc rt Qr (pc + 1) lv (.int (nI (a - b)) :: r) M) : WR C t oc rt Qr pc lv (.int (nI b) :: .int (nI a) :: r) M := R_isub h (by rw [pk_sub hb]; exact k)
theorem R_top {x y : Int32} (h : x = y) (k : WR C t oc rt Qr pc lv (.int y :: r) M) : WR C t oc rt Qr pc lv (.int x :: r) M := h ▸ k
end RR
theorem CalR_of {d j : Nat} {md : MD} {av : List Value} {M M1 : Mem} {v : Option Value} (hp : prog[j]? = some md) (hl : (lg_sl av).length ≤ md.2.2.1) (h : WR (CalR d) md.2.2.2.2.2.2.2 md.2.2.2.2.2.1 md.2.2.2.1 (fun v' M' => v' = v ∧ M' = M1) 0 (lv_args 0 av) [] M) : CalR (d + 1) j av M v M1 := by
  simp only [CalR, hp]
  exact ⟨hl, h⟩
end
section
abbrev j_X0_init : Nat := 0
abbrev j_X0_add : Nat := 1
abbrev j_X0_wordAt : Nat := 2
abbrev j_X0_placeOf : Nat := 3
abbrev j_X0_forgetAll : Nat := 4
abbrev j_X0_firstFault : Nat := 5
abbrev j_X0_layLabels : Nat := 6
abbrev j_X0_faultOf : Nat := 7
abbrev j_X1_init : Nat := 8
abbrev j_X1_begin : Nat := 9
abbrev j_X1_hasLocal : Nat := 10
abbrev j_X1_valueAt : Nat := 11
abbrev j_X1_put : Nat := 12
abbrev j_X2_init : Nat := 13
abbrev j_X2_clear : Nat := 14
abbrev j_X2_thingOf : Nat := 15
abbrev j_X2_outward : Nat := 16
abbrev j_X2_withSerial : Nat := 17
abbrev j_X2_make : Nat := 18
abbrev j_X2_addSlot : Nat := 19
abbrev j_X2_removeSlot : Nat := 20
abbrev j_X2_hasRoomToMake : Nat := 21
abbrev j_X2_hasRoomForSlot : Nat := 22
abbrev j_X2_minor : Nat := 23
abbrev j_X2_major : Nat := 24
abbrev j_X2_youngLeft : Nat := 25
abbrev j_X2_oldLeft : Nat := 26
abbrev j_X2_freeUnmarked : Nat := 27
abbrev j_X2_unused : Nat := 28
abbrev j_X2_admit : Nat := 29
abbrev j_X2_leaveNursery : Nat := 30
abbrev j_X2_free : Nat := 31
abbrev j_X2_youngMarked : Nat := 32
abbrev j_X2_mark : Nat := 33
abbrev j_X2_reachRow : Nat := 34
abbrev j_X2_reach : Nat := 35
abbrev j_X3_init : Nat := 36
abbrev j_X3_isOf : Nat := 37
abbrev j_X3_note : Nat := 38
abbrev j_X3_hasNamesOf : Nat := 39
abbrev j_X4_init : Nat := 40
abbrev j_X4_add : Nat := 41
abbrev j_X4_kept : Nat := 42
abbrev j_X5_init : Nat := 43
abbrev j_X5_clear : Nat := 44
abbrev j_X5_ofFrame : Nat := 45
abbrev j_X5_fromAbove : Nat := 46
abbrev j_X5_push : Nat := 47
abbrev j_X5_take : Nat := 48
abbrev j_X5_lower : Nat := 49
abbrev j_X5_enter : Nat := 50
abbrev j_X5_leave : Nat := 51
abbrev j_X5_globalAt : Nat := 52
abbrev j_X5_putGlobal : Nat := 53
abbrev j_X5_protoOf : Nat := 54
abbrev j_X5_putProto : Nat := 55
abbrev j_X6_init : Nat := 56
abbrev j_X6_size : Nat := 57
abbrev j_X6_indexOf : Nat := 58
abbrev j_X6_valueOf : Nat := 59
abbrev j_X6_copy : Nat := 60
abbrev j_X7_init : Nat := 61
abbrev j_X7_memory : Nat := 62
abbrev j_X7_forget : Nat := 63
abbrev j_X7_wanted : Nat := 64
abbrev j_X7_kindsAbove : Nat := 65
abbrev j_X7_kindsBelow : Nat := 66
abbrev j_X7_isOperation : Nat := 67
abbrev j_X7_isInRange : Nat := 68
abbrev j_X7_goesToLabel : Nat := 69
abbrev j_X7_mostOfA : Nat := 70
abbrev j_X7_mostOfB : Nat := 71
abbrev j_X8_init : Nat := 72
abbrev j_X8_asm : Nat := 73
abbrev j_X8_wipe : Nat := 74
abbrev j_X8_link : Nat := 75
abbrev j_X8_fault : Nat := 76
abbrev j_X8_step : Nat := 77
abbrev j_X8_run : Nat := 78
abbrev j_X8_restart : Nat := 79
abbrev j_X8_collectMinor : Nat := 80
abbrev j_X8_collectMajor : Nat := 81
abbrev j_X8_many : Nat := 82
abbrev j_X8_pile : Nat := 83
abbrev j_X8_local : Nat := 84
abbrev j_X8_object : Nat := 85
abbrev j_X8_slot : Nat := 86
abbrev j_X8_outSize : Nat := 87
abbrev j_X8_out : Nat := 88
abbrev j_X8_count : Nat := 89
abbrev j_X8_unlink : Nat := 90
abbrev j_X8_beginAnew : Nat := 91
abbrev j_X8_advance : Nat := 92
abbrev j_X8_valuesEnd : Nat := 93
abbrev j_X8_roomEnd : Nat := 94
abbrev j_X8_perform : Nat := 95
abbrev j_X8_bring : Nat := 96
abbrev j_X8_exchange : Nat := 97
abbrev j_X8_letGo : Nat := 98
abbrev j_X8_swap : Nat := 99
abbrev j_X8_reckon : Nat := 100
abbrev j_X8_arithmetic : Nat := 101
abbrev j_X8_jump : Nat := 102
abbrev j_X8_store : Nat := 103
abbrev j_X8_keep : Nat := 104
abbrev j_X8_print : Nat := 105
abbrev j_X8_giveBack : Nat := 106
abbrev j_X8_makeNew : Nat := 107
abbrev j_X8_makeCopy : Nat := 108
abbrev j_X8_get : Nat := 109
abbrev j_X8_set : Nat := 110
abbrev j_X8_drop : Nat := 111
abbrev j_X8_parent : Nat := 112
abbrev j_X8_adopt : Nat := 113
abbrev j_X8_proto : Nat := 114
abbrev j_X8_send : Nat := 115
abbrev j_X8_call : Nat := 116
abbrev j_X8_answer : Nat := 117
abbrev j_X8_chainOf : Nat := 118
abbrev j_X8_finder : Nat := 119
abbrev j_X8_remember : Nat := 120
abbrev j_X8_isUnchanged : Nat := 121
abbrev j_X8_nearest : Nat := 122
abbrev j_X8_serialOf : Nat := 123
abbrev j_X8_pack : Nat := 124
abbrev j_X8_valueOfThing : Nat := 125
abbrev j_X8_truth : Nat := 126
abbrev j_X8_kindOf : Nat := 127
abbrev j_X8_numberOf : Nat := 128
abbrev j_X8_isFalse : Nat := 129
abbrev j_X8_isAmong : Nat := 130
abbrev j_X8_told : Nat := 131
abbrev j_X9_init : Nat := 132
abbrev j_X9_clear : Nat := 133
abbrev j_X9_asm : Nat := 134
abbrev j_X9_wipe : Nat := 135
abbrev j_X9_isIn : Nat := 136
abbrev j_X9_aFits : Nat := 137
abbrev j_X9_bFits : Nat := 138
abbrev j_X9_namesLabel : Nat := 139
abbrev j_X9_faultOf : Nat := 140
abbrev j_X9_link : Nat := 141
abbrev j_X9_fault : Nat := 142
abbrev j_X9_sizeOf : Nat := 143
abbrev j_X9_mark : Nat := 144
abbrev j_X9_reach : Nat := 145
abbrev j_X9_free : Nat := 146
abbrev j_X9_major : Nat := 147
abbrev j_X9_heldCells : Nat := 148
abbrev j_X9_minor : Nat := 149
abbrev j_X9_greatHas : Nat := 150
abbrev j_X9_make : Nat := 151
abbrev j_X9_widen : Nat := 152
abbrev j_X9_topKind : Nat := 153
abbrev j_X9_topNumber : Nat := 154
abbrev j_X9_push : Nat := 155
abbrev j_X9_ends : Nat := 156
abbrev j_X9_well : Nat := 157
abbrev j_X9_chainOf : Nat := 158
abbrev j_X9_ownSlot : Nat := 159
abbrev j_X9_find : Nat := 160
abbrev j_X9_touch : Nat := 161
abbrev j_X9_serialAt : Nat := 162
abbrev j_X9_remembers : Nat := 163
abbrev j_X9_isCalm : Nat := 164
abbrev j_X9_meet : Nat := 165
abbrev j_X9_wants : Nat := 166
abbrev j_X9_put : Nat := 167
abbrev j_X9_reckon : Nat := 168
abbrev j_X9_fresh : Nat := 169
abbrev j_X9_copy : Nat := 170
abbrev j_X9_get : Nat := 171
abbrev j_X9_set : Nat := 172
abbrev j_X9_drop : Nat := 173
abbrev j_X9_parent : Nat := 174
abbrev j_X9_adopt : Nat := 175
abbrev j_X9_proto : Nat := 176
abbrev j_X9_send : Nat := 177
abbrev j_X9_giveBack : Nat := 178
abbrev j_X9_print : Nat := 179
abbrev j_X9_local : Nat := 180
abbrev j_X9_store : Nat := 181
abbrev j_X9_keep : Nat := 182
abbrev j_X9_isFalse : Nat := 183
abbrev j_X9_unless : Nat := 184
abbrev j_X9_swap : Nat := 185
abbrev j_X9_answer : Nat := 186
abbrev j_X9_simple : Nat := 187
abbrev j_X9_oneStep : Nat := 188
abbrev j_X9_step : Nat := 189
abbrev j_X9_run : Nat := 190
abbrev j_X9_restart : Nat := 191
abbrev j_X9_collectMinor : Nat := 192
abbrev j_X9_collectMajor : Nat := 193
abbrev j_X9_objects : Nat := 194
abbrev j_X9_many : Nat := 195
abbrev j_X9_tell : Nat := 196
abbrev j_X9_pile : Nat := 197
abbrev j_X9_local_ : Nat := 198
abbrev j_X9_placeOf : Nat := 199
abbrev j_X9_object : Nat := 200
abbrev j_X9_slot : Nat := 201
abbrev j_X9_outSize : Nat := 202
abbrev j_X9_out : Nat := 203
abbrev j_J7_fill_d0a16 : Nat := 204
abbrev j_J7_fill_53178 : Nat := 205
abbrev j_L_cell : Nat := 206
end
section
/-! ===== the reference: small methods ===== -/
theorem r_isIn {d : Nat} {M : Mem} {v lo hi : Int32} : CalR (d + 1) j_X9_isIn [.int v, .int lo, .int hi] M (some (.int (if lo ≤ v ∧ v ≤ hi then 1 else 0))) M := by
  refine CalR_of (md := md_X9_isIn) rfl (Nat.le_of_ble_eq_true rfl) ?_
  show WR (CalR d) t_X9_isIn 9 (some .boolean) _ 0 [(0, .int v), (1, .int lo), (2, .int hi)] [] _
  refine R_iload_n rfl rfl ?_
  refine R_iload_n rfl rfl ?_
  refine R_icmp (pc' := 14) rfl rfl (fun hc => ?_) (fun hc => ?_)
  · rw [if_neg (fun q => absurd hc (Int32.not_lt.mpr q.1))]
    refine R_iconst (y := nI 0) rfl (by decide) ?_
    exact R_iret rfl rfl (by first | trivial | exact Or.inl rfl | exact Or.inr rfl | assumption) ⟨rfl, rfl⟩
  · have h1 := hc
    refine R_iload_n rfl rfl ?_
    refine R_iload_n rfl rfl ?_
    refine R_icmp (pc' := 14) rfl rfl (fun hc => ?_) (fun hc => ?_)
    · rw [if_neg (fun q => absurd hc (Int32.not_lt.mpr q.2))]
      refine R_iconst (y := nI 0) rfl (by decide) ?_
      exact R_iret rfl rfl (by first | trivial | exact Or.inl rfl | exact Or.inr rfl | assumption) ⟨rfl, rfl⟩
    · rw [if_pos ⟨Int32.not_lt.mp h1, Int32.not_lt.mp hc⟩]
      refine R_iconst (y := nI 1) rfl (by decide) ?_
      refine R_goto (pc' := 15) rfl rfl ?_
      exact R_iret rfl rfl (by first | trivial | exact Or.inl rfl | exact Or.inr rfl | assumption) ⟨rfl, rfl⟩
theorem r_sizeOf {d : Nat} {M : Mem} {i n : Nat} (hi : i < 1500) (hn : M 32 i = nI n) : CalR (d + 1) j_X9_sizeOf [.ref 0, .int (nI i)] M (some (.int (nI (3 + n)))) M := by
  refine CalR_of (md := md_X9_sizeOf) rfl (Nat.le_of_ble_eq_true rfl) ?_
  show WR (CalR d) t_X9_sizeOf 9 (some .int) _ 0 [(0, .ref 0), (1, .int (nI i))] [] _
  refine R_iconst (y := nI 3) rfl (by decide) ?_
  refine R_aload_n rfl rfl ?_
  refine R_getA rfl rfl (Or.inl rfl) ?_
  refine R_iload_n rfl rfl ?_
  refine R_iald rfl rfl rfl (show _ < 1500 from by omega) ?_
  try refine R_top (y := nI _) (by assumption) ?_
  first | refine R_iaddN rfl ?_ | refine R_iadd rfl ?_
  exact R_iret rfl rfl (by first | trivial | exact Or.inl rfl | exact Or.inr rfl | assumption) ⟨rfl, rfl⟩
theorem r_mark0 {d : Nat} {M : Mem} {k x : Int32} (hk : k ≠ 2) : CalR (d + 1) j_X9_mark [.ref 0, .int k, .int x] M none M := by
  refine CalR_of (md := md_X9_mark) rfl (Nat.le_of_ble_eq_true rfl) ?_
  show WR (CalR d) t_X9_mark 9 none _ 0 [(0, .ref 0), (1, .int k), (2, .int x)] [] _
  refine R_iload_n rfl rfl ?_
  refine R_iconst (y := nI 2) rfl (by decide) ?_
  refine R_icmp (pc' := 41) rfl rfl (fun hc => ?_) (fun hc => ?_)
  · exact R_ret rfl rfl ⟨rfl, rfl⟩
  · exact absurd (fun q => hk q) hc
theorem r_mark1 {d : Nat} {M : Mem} {i : Nat} (hi : i < 1500) (hm : ¬ M 37 i = 0) : CalR (d + 1) j_X9_mark [.ref 0, .int 2, .int (nI i)] M none M := by
  refine CalR_of (md := md_X9_mark) rfl (Nat.le_of_ble_eq_true rfl) ?_
  show WR (CalR d) t_X9_mark 9 none _ 0 [(0, .ref 0), (1, .int 2), (2, .int (nI i))] [] _
  refine R_iload_n rfl rfl ?_
  refine R_iconst (y := nI 2) rfl (by decide) ?_
  refine R_icmp (pc' := 41) rfl rfl (fun hc => ?_) (fun hc => ?_)
  · exact absurd rfl hc
  · refine R_aload_n rfl rfl ?_
    refine R_getA rfl rfl (Or.inr rfl) ?_
    refine R_iload_n rfl rfl ?_
    refine R_bald rfl rfl rfl (show _ < 1500 from by omega) ?_
    try refine R_top (y := nI _) (by assumption) ?_
    refine R_if (pc' := 41) rfl rfl (fun hc => ?_) (fun hc => ?_)
    · exact R_ret rfl rfl ⟨rfl, rfl⟩
    · exact absurd hm hc
theorem r_mark2 {d : Nat} {M : Mem} {i q : Nat} (hi : i < 1500) (hq : q < 1500) (hm : M 37 i = 0) (hqq : M 39 0 = nI q) : CalR (d + 1) j_X9_mark [.ref 0, .int 2, .int (nI i)] M none (up2 (up2 (up2 M 37 i 1) 38 q (nI i)) 39 0 (nI (q + 1))) := by
  refine CalR_of (md := md_X9_mark) rfl (Nat.le_of_ble_eq_true rfl) ?_
  show WR (CalR d) t_X9_mark 9 none _ 0 [(0, .ref 0), (1, .int 2), (2, .int (nI i))] [] _
  refine R_iload_n rfl rfl ?_
  refine R_iconst (y := nI 2) rfl (by decide) ?_
  refine R_icmp (pc' := 41) rfl rfl (fun hc => ?_) (fun hc => ?_)
  · exact absurd rfl hc
  · refine R_aload_n rfl rfl ?_
    refine R_getA rfl rfl (Or.inr rfl) ?_
    refine R_iload_n rfl rfl ?_
    refine R_bald rfl rfl rfl (show _ < 1500 from by omega) ?_
    try refine R_top (y := nI _) (by assumption) ?_
    refine R_if (pc' := 41) rfl rfl (fun hc => ?_) (fun hc => ?_)
    · exact absurd nI_0 hc
    · refine R_aload_n rfl rfl ?_
      refine R_getA rfl rfl (Or.inr rfl) ?_
      refine R_iload_n rfl rfl ?_
      refine R_iconst (y := nI 1) rfl (by decide) ?_
      refine R_bast rfl rfl rfl (show _ < 1500 from by omega) (by first | exact Or.inl rfl | exact Or.inr rfl | assumption) ?_
      refine R_aload_n rfl rfl ?_
      refine R_getA rfl rfl (Or.inl rfl) ?_
      refine R_aload_n rfl rfl ?_
      refine R_getI rfl rfl (Or.inl rfl) ?_
      try refine R_top (y := nI _) (by assumption) ?_
      refine R_iload_n rfl rfl ?_
      refine R_iast rfl rfl rfl (show _ < 1500 from by omega) ?_
      refine R_aload_n rfl rfl ?_
      refine R_dup rfl ?_
      refine R_getI rfl rfl (Or.inl rfl) ?_
      try refine R_top (y := nI _) (by assumption) ?_
      refine R_iconst (y := nI 1) rfl (by decide) ?_
      first | refine R_iaddN rfl ?_ | refine R_iadd rfl ?_
      refine R_put rfl rfl rfl ?_
      exact R_ret rfl rfl ⟨rfl, rfl⟩
theorem r_topKind {d : Nat} {M : Mem} {p e : Nat} (hp : M 14 0 = nI p) (hp1 : p ≤ 1000) (he : e < p) : CalR (d + 1) j_X9_topKind [.ref 0, .int (nI e)] M (some (.int (M 12 (p - 1 - e)))) M := by
  refine CalR_of (md := md_X9_topKind) rfl (Nat.le_of_ble_eq_true rfl) ?_
  show WR (CalR d) t_X9_topKind 9 (some .int) _ 0 [(0, .ref 0), (1, .int (nI e))] [] _
  refine R_aload_n rfl rfl ?_
  refine R_getA rfl rfl (Or.inl rfl) ?_
  refine R_aload_n rfl rfl ?_
  refine R_getI rfl rfl (Or.inl rfl) ?_
  try refine R_top (y := nI _) (by assumption) ?_
  refine R_iconst (y := nI 1) rfl (by decide) ?_
  first | refine R_isubN rfl (by omega) ?_ | refine R_isub rfl ?_
  refine R_iload_n rfl rfl ?_
  first | refine R_isubN rfl (by omega) ?_ | refine R_isub rfl ?_
  refine R_iald rfl rfl rfl (show _ < 1000 from by omega) ?_
  try refine R_top (y := nI _) (by assumption) ?_
  exact R_iret rfl rfl (by first | trivial | exact Or.inl rfl | exact Or.inr rfl | assumption) ⟨rfl, rfl⟩
theorem r_topNumber {d : Nat} {M : Mem} {p e : Nat} (hp : M 14 0 = nI p) (hp1 : p ≤ 1000) (he : e < p) : CalR (d + 1) j_X9_topNumber [.ref 0, .int (nI e)] M (some (.int (M 13 (p - 1 - e)))) M := by
  refine CalR_of (md := md_X9_topNumber) rfl (Nat.le_of_ble_eq_true rfl) ?_
  show WR (CalR d) t_X9_topNumber 9 (some .int) _ 0 [(0, .ref 0), (1, .int (nI e))] [] _
  refine R_aload_n rfl rfl ?_
  refine R_getA rfl rfl (Or.inl rfl) ?_
  refine R_aload_n rfl rfl ?_
  refine R_getI rfl rfl (Or.inl rfl) ?_
  try refine R_top (y := nI _) (by assumption) ?_
  refine R_iconst (y := nI 1) rfl (by decide) ?_
  first | refine R_isubN rfl (by omega) ?_ | refine R_isub rfl ?_
  refine R_iload_n rfl rfl ?_
  first | refine R_isubN rfl (by omega) ?_ | refine R_isub rfl ?_
  refine R_iald rfl rfl rfl (show _ < 1000 from by omega) ?_
  try refine R_top (y := nI _) (by assumption) ?_
  exact R_iret rfl rfl (by first | trivial | exact Or.inl rfl | exact Or.inr rfl | assumption) ⟨rfl, rfl⟩
def pushM (M : Mem) (p : Nat) (k x : Int32) : Mem := up2 (up2 (up2 M 12 p k) 13 p x) 14 0 (nI (p + 1))
theorem r_push {d : Nat} {M : Mem} {p : Nat} {k x : Int32} (hp : M 14 0 = nI p) (hp1 : p < 1000) : CalR (d + 1) j_X9_push [.ref 0, .int k, .int x] M none (pushM M p k x) := by
  refine CalR_of (md := md_X9_push) rfl (Nat.le_of_ble_eq_true rfl) ?_
  show WR (CalR d) t_X9_push 9 none _ 0 [(0, .ref 0), (1, .int k), (2, .int x)] [] _
  refine R_aload_n rfl rfl ?_
  refine R_getA rfl rfl (Or.inl rfl) ?_
  refine R_aload_n rfl rfl ?_
  refine R_getI rfl rfl (Or.inl rfl) ?_
  try refine R_top (y := nI _) (by assumption) ?_
  refine R_iload_n rfl rfl ?_
  refine R_iast rfl rfl rfl (show _ < 1000 from by omega) ?_
  refine R_aload_n rfl rfl ?_
  refine R_getA rfl rfl (Or.inl rfl) ?_
  refine R_aload_n rfl rfl ?_
  refine R_getI rfl rfl (Or.inl rfl) ?_
  try refine R_top (y := nI _) (by assumption) ?_
  refine R_iload_n rfl rfl ?_
  refine R_iast rfl rfl rfl (show _ < 1000 from by omega) ?_
  refine R_aload_n rfl rfl ?_
  refine R_dup rfl ?_
  refine R_getI rfl rfl (Or.inl rfl) ?_
  try refine R_top (y := nI _) (by assumption) ?_
  refine R_iconst (y := nI 1) rfl (by decide) ?_
  first | refine R_iaddN rfl ?_ | refine R_iadd rfl ?_
  refine R_put rfl rfl rfl ?_
  exact R_ret rfl rfl ⟨rfl, rfl⟩
theorem r_ends {d : Nat} {M : Mem} {x : Int32} : CalR (d + 1) j_X9_ends [.ref 0, .int x] M (some (.int x)) (up2 M 9 0 x) := by
  refine CalR_of (md := md_X9_ends) rfl (Nat.le_of_ble_eq_true rfl) ?_
  show WR (CalR d) t_X9_ends 9 (some .int) _ 0 [(0, .ref 0), (1, .int x)] [] _
  refine R_aload_n rfl rfl ?_
  refine R_iload_n rfl rfl ?_
  refine R_put rfl rfl rfl ?_
  refine R_iload_n rfl rfl ?_
  exact R_iret rfl rfl (by first | trivial | exact Or.inl rfl | exact Or.inr rfl | assumption) ⟨rfl, rfl⟩
theorem r_well {d : Nat} {M : Mem} {x : Int32} {s : Nat} (hs : M 11 0 = nI s) : CalR (d + 1) j_X9_well [.ref 0, .int x] M (some (.int 0)) (up2 (up2 M 10 0 x) 11 0 (nI (s + 1))) := by
  refine CalR_of (md := md_X9_well) rfl (Nat.le_of_ble_eq_true rfl) ?_
  show WR (CalR d) t_X9_well 9 (some .int) _ 0 [(0, .ref 0), (1, .int x)] [] _
  refine R_aload_n rfl rfl ?_
  refine R_iload_n rfl rfl ?_
  refine R_put rfl rfl rfl ?_
  refine R_aload_n rfl rfl ?_
  refine R_dup rfl ?_
  refine R_getI rfl rfl (Or.inl rfl) ?_
  try refine R_top (y := nI _) (by assumption) ?_
  refine R_iconst (y := nI 1) rfl (by decide) ?_
  first | refine R_iaddN rfl ?_ | refine R_iadd rfl ?_
  refine R_put rfl rfl rfl ?_
  refine R_iconst (y := nI 0) rfl (by decide) ?_
  exact R_iret rfl rfl (by first | trivial | exact Or.inl rfl | exact Or.inr rfl | assumption) ⟨rfl, rfl⟩
theorem r_touch {d : Nat} {M : Mem} {i s : Nat} (hi : i < 1500) (hs : M 11 0 = nI s) : CalR (d + 1) j_X9_touch [.ref 0, .int (nI i)] M none (up2 M 33 i (nI (s + 1))) := by
  refine CalR_of (md := md_X9_touch) rfl (Nat.le_of_ble_eq_true rfl) ?_
  show WR (CalR d) t_X9_touch 9 none _ 0 [(0, .ref 0), (1, .int (nI i))] [] _
  refine R_aload_n rfl rfl ?_
  refine R_getA rfl rfl (Or.inl rfl) ?_
  refine R_iload_n rfl rfl ?_
  refine R_aload_n rfl rfl ?_
  refine R_getI rfl rfl (Or.inl rfl) ?_
  try refine R_top (y := nI _) (by assumption) ?_
  refine R_iconst (y := nI 1) rfl (by decide) ?_
  first | refine R_iaddN rfl ?_ | refine R_iadd rfl ?_
  refine R_iast rfl rfl rfl (show _ < 1500 from by omega) ?_
  exact R_ret rfl rfl ⟨rfl, rfl⟩
theorem r_chainOf2 {d : Nat} {M : Mem} {x : Int32} : CalR (d + 1) j_X9_chainOf [.ref 0, .int 2, .int x] M (some (.int x)) M := by
  refine CalR_of (md := md_X9_chainOf) rfl (Nat.le_of_ble_eq_true rfl) ?_
  show WR (CalR d) t_X9_chainOf 9 (some .int) _ 0 [(0, .ref 0), (1, .int 2), (2, .int x)] [] _
  refine R_iload_n rfl rfl ?_
  refine R_iconst (y := nI 2) rfl (by decide) ?_
  refine R_icmp (pc' := 9) rfl rfl (fun hc => ?_) (fun hc => ?_)
  · exact absurd rfl hc
  · refine R_iload_n rfl rfl ?_
    refine R_goto (pc' := 15) rfl rfl ?_
    exact R_iret rfl rfl (by first | trivial | exact Or.inl rfl | exact Or.inr rfl | assumption) ⟨rfl, rfl⟩
theorem r_chainOf {d : Nat} {M : Mem} {k : Nat} {x : Int32} (hk : k < 4) (hk2 : k ≠ 2) : CalR (d + 1) j_X9_chainOf [.ref 0, .int (nI k), .int x] M (some (.int (M 25 k))) M := by
  refine CalR_of (md := md_X9_chainOf) rfl (Nat.le_of_ble_eq_true rfl) ?_
  show WR (CalR d) t_X9_chainOf 9 (some .int) _ 0 [(0, .ref 0), (1, .int (nI k)), (2, .int x)] [] _
  refine R_iload_n rfl rfl ?_
  refine R_iconst (y := nI 2) rfl (by decide) ?_
  refine R_icmp (pc' := 9) rfl rfl (fun hc => ?_) (fun hc => ?_)
  · refine R_aload_n rfl rfl ?_
    refine R_getA rfl rfl (Or.inl rfl) ?_
    refine R_iload_n rfl rfl ?_
    refine R_iald rfl rfl rfl (show _ < 4 from by omega) ?_
    try refine R_top (y := nI _) (by assumption) ?_
    exact R_iret rfl rfl (by first | trivial | exact Or.inl rfl | exact Or.inr rfl | assumption) ⟨rfl, rfl⟩
  · exact absurd (fun q => hk2 ((nI_eq (by omega) (by omega)).mp q)) hc
theorem r_serialN {d : Nat} {M : Mem} : CalR (d + 1) j_X9_serialAt [.ref 0, .int (-1)] M (some (.int 0)) M := by
  refine CalR_of (md := md_X9_serialAt) rfl (Nat.le_of_ble_eq_true rfl) ?_
  show WR (CalR d) t_X9_serialAt 9 (some .int) _ 0 [(0, .ref 0), (1, .int (-1))] [] _
  refine R_iload_n rfl rfl ?_
  refine R_if (pc' := 8) rfl rfl (fun hc => ?_) (fun hc => ?_)
  · exact absurd hc (show ¬ (0 : Int32) ≤ -1 by decide)
  · refine R_iconst (y := nI 0) rfl (by decide) ?_
    refine R_goto (pc' := 14) rfl rfl ?_
    exact R_iret rfl rfl (by first | trivial | exact Or.inl rfl | exact Or.inr rfl | assumption) ⟨rfl, rfl⟩
theorem r_serialAt {d : Nat} {M : Mem} {i : Nat} (hi : i < 1500) : CalR (d + 1) j_X9_serialAt [.ref 0, .int (nI i)] M (some (.int (M 29 i))) M := by
  refine CalR_of (md := md_X9_serialAt) rfl (Nat.le_of_ble_eq_true rfl) ?_
  show WR (CalR d) t_X9_serialAt 9 (some .int) _ 0 [(0, .ref 0), (1, .int (nI i))] [] _
  refine R_iload_n rfl rfl ?_
  refine R_if (pc' := 8) rfl rfl (fun hc => ?_) (fun hc => ?_)
  · refine R_aload_n rfl rfl ?_
    refine R_getA rfl rfl (Or.inl rfl) ?_
    refine R_iload_n rfl rfl ?_
    refine R_iald rfl rfl rfl (show _ < 1500 from by omega) ?_
    try refine R_top (y := nI _) (by assumption) ?_
    exact R_iret rfl rfl (by first | trivial | exact Or.inl rfl | exact Or.inr rfl | assumption) ⟨rfl, rfl⟩
  · exact absurd (nI_pos' (by omega)) hc
theorem r_ownSlot_none {d : Nat} {M : Mem} {i n : Nat} {x : Int32} (hi : i < 1500) (hn : M 32 i = nI n) (hn4 : n ≤ 40) (hx : ∀ s, s < n → M 34 (40 * i + s) ≠ x) : CalR (d + 1) j_X9_ownSlot [.ref 0, .int (nI i), .int x] M (some (.int (-1))) M := by
  refine CalR_of (md := md_X9_ownSlot) rfl (Nat.le_of_ble_eq_true rfl) ?_
  show WR (CalR d) t_X9_ownSlot 9 (some .int) _ 0 [(0, .ref 0), (1, .int (nI i)), (2, .int x)] [] _
  refine R_iconst (y := nI 0) rfl (by decide) ?_
  refine R_istore_n (lv' := [(3, _), (0, _), (1, _), (2, _)]) rfl rfl ?_
  have lp : ∀ (k s : Nat), s ≤ n → n - s ≤ k → WR (CalR d) t_X9_ownSlot 9 (some .int) (fun v' M' => v' = some (.int (-1)) ∧ M' = M) 2 [(3, .int (nI s)), (0, .ref 0), (1, .int (nI i)), (2, .int x)] [] M := by
    intro k
    induction k with
    | zero =>
      intro s hs hk
      refine R_iload_n rfl rfl ?_
      refine R_aload_n rfl rfl ?_
      refine R_getA rfl rfl (Or.inl rfl) ?_
      refine R_iload_n rfl rfl ?_
      refine R_iald rfl rfl rfl (show _ < 1500 from by omega) ?_
      try refine R_top (y := nI _) (by assumption) ?_
      refine R_icmp (pc' := 40) rfl rfl (fun hc => ?_) (fun hc => ?_)
      · refine R_iconst (y := (-1)) rfl (by decide) ?_
        exact R_iret rfl rfl (by first | trivial | exact Or.inl rfl | exact Or.inr rfl | assumption) ⟨rfl, rfl⟩
      · exact absurd (nI_le (by omega) (by omega)) hc
    | succ k ih =>
      intro s hs hk
      refine R_iload_n rfl rfl ?_
      refine R_aload_n rfl rfl ?_
      refine R_getA rfl rfl (Or.inl rfl) ?_
      refine R_iload_n rfl rfl ?_
      refine R_iald rfl rfl rfl (show _ < 1500 from by omega) ?_
      try refine R_top (y := nI _) (by assumption) ?_
      refine R_icmp (pc' := 40) rfl rfl (fun hc => ?_) (fun hc => ?_)
      · refine R_iconst (y := (-1)) rfl (by decide) ?_
        exact R_iret rfl rfl (by first | trivial | exact Or.inl rfl | exact Or.inr rfl | assumption) ⟨rfl, rfl⟩
      · have hlt : s < n := Nat.lt_of_not_le (fun q => hc (nI_le q (by omega)))
        refine R_aload_n rfl rfl ?_
        refine R_getA rfl rfl (Or.inl rfl) ?_
        refine R_bipush (y := nI 40) rfl (by decide) ?_
        refine R_iload_n rfl rfl ?_
        first | refine R_imulN rfl ?_ | refine R_imul rfl ?_
        refine R_iload_n rfl rfl ?_
        first | refine R_iaddN rfl ?_ | refine R_iadd rfl ?_
        refine R_iald rfl rfl rfl (show _ < 60000 from by omega) ?_
        try refine R_top (y := nI _) (by assumption) ?_
        refine R_iload_n rfl rfl ?_
        refine R_icmp (pc' := 34) rfl rfl (fun hc => ?_) (fun hc => ?_)
        · refine R_iinc (lv' := [(3, _), (0, _), (1, _), (2, _)]) rfl rfl (by exact nI_1 _) rfl ?_
          refine R_goto (pc' := 2) rfl rfl ?_
          exact ih (s + 1) (by omega) (by omega)
        · exact absurd (hx s hlt) hc
  exact lp n 0 (Nat.zero_le _) (Nat.le_refl _)
end
section
/-! ===== the reference's calls by what is said of their end ===== -/
def nrf (v : Option Value) : Prop := ∀ a, v ≠ some (.ref a)
set_option maxHeartbeats 4000000 in
theorem insR_ex {C : Rrel} {oc : Nat} {rt : Option FieldType} {Qr : Option Value → Mem → Prop} {K : Nat → Lv → List Value → Mem → Prop} {Kx : Option Value → Mem → Nat → Lv → List Value → Mem → Prop} {pc : Nat} {lv : Lv} {st : List Value} {M : Mem} {i : Instr}
    (hK : ∀ pc lv st M', K pc lv st M' → ∃ v M1, nrf v ∧ Qr v M1 ∧ Kx v M1 pc lv st M')
    (h : insR C oc rt Qr K pc lv st M i) : ∃ v M1, nrf v ∧ Qr v M1 ∧ insR C oc rt (fun v' M' => v' = v ∧ M' = M1) (Kx v M1) pc lv st M i := by
  cases i
  case getfield i =>
    simp only [insR] at h ⊢
    split at h
    · split at h <;> first
        | exact h.elim
        | exact hK _ _ _ _ h
    · exact h.elim
  case putfield i =>
    simp only [insR] at h ⊢
    split at h
    · split at h
      · exact hK _ _ _ _ h
      · obtain ⟨v9, M9, n9, q9, k9⟩ := hK _ _ _ _ h.2
        exact ⟨v9, M9, n9, q9, h.1, k9⟩
      · exact h.elim
    · exact h.elim
  case iaload =>
    simp only [insR] at h ⊢
    split at h
    · split at h
      · obtain ⟨v9, M9, n9, q9, k9⟩ := hK _ _ _ _ h.2
        exact ⟨v9, M9, n9, q9, h.1, k9⟩
      · exact h.elim
    · exact h.elim
  case baload =>
    simp only [insR] at h ⊢
    split at h
    · split at h
      · obtain ⟨v9, M9, n9, q9, k9⟩ := hK _ _ _ _ h.2
        exact ⟨v9, M9, n9, q9, h.1, k9⟩
      · exact h.elim
    · exact h.elim
  case iastore =>
    simp only [insR] at h ⊢
    split at h
    · split at h
      · obtain ⟨v9, M9, n9, q9, k9⟩ := hK _ _ _ _ h.2
        exact ⟨v9, M9, n9, q9, h.1, k9⟩
      · exact h.elim
    · exact h.elim
  case bastore =>
    simp only [insR] at h ⊢
    split at h
    · split at h
      · obtain ⟨v9, M9, n9, q9, k9⟩ := hK _ _ _ _ h.2.2
        exact ⟨v9, M9, n9, q9, h.1, h.2.1, k9⟩
      · exact h.elim
    · exact h.elim
  case ifCond c f =>
    simp only [insR] at h ⊢
    split at h
    · rename_i x r
      by_cases q : icc c x 0
      · obtain ⟨v9, M9, n9, q9, k9⟩ := hK _ _ _ _ (h.1 q)
        exact ⟨v9, M9, n9, q9, fun _ => k9, fun q2 => absurd q q2⟩
      · obtain ⟨v9, M9, n9, q9, k9⟩ := hK _ _ _ _ (h.2 q)
        exact ⟨v9, M9, n9, q9, fun q2 => absurd q2 q, fun _ => k9⟩
    · exact h.elim
  case if_icmp c f =>
    simp only [insR] at h ⊢
    split at h
    · rename_i y x r
      by_cases q : icc c x y
      · obtain ⟨v9, M9, n9, q9, k9⟩ := hK _ _ _ _ (h.1 q)
        exact ⟨v9, M9, n9, q9, fun _ => k9, fun q2 => absurd q q2⟩
      · obtain ⟨v9, M9, n9, q9, k9⟩ := hK _ _ _ _ (h.2 q)
        exact ⟨v9, M9, n9, q9, fun q2 => absurd q2 q, fun _ => k9⟩
    · exact h.elim
  case ldiv =>
    simp only [insR] at h ⊢
    split at h
    · obtain ⟨v9, M9, n9, q9, k9⟩ := hK _ _ _ _ h.2
      exact ⟨v9, M9, n9, q9, h.1, k9⟩
    · exact h.elim
  case lrem =>
    simp only [insR] at h ⊢
    split at h
    · obtain ⟨v9, M9, n9, q9, k9⟩ := hK _ _ _ _ h.2
      exact ⟨v9, M9, n9, q9, h.1, k9⟩
    · exact h.elim
  case ireturn =>
    simp only [insR] at h ⊢
    split at h
    · exact ⟨_, _, (fun a q => by cases q), h.2, h.1, rfl, rfl⟩
    · exact h.elim
  case return_ =>
    simp only [insR] at h ⊢
    split at h
    · exact ⟨_, _, (fun a q => by cases q), h, rfl, rfl⟩
    · exact h.elim
  case invokevirtual i =>
    simp only [insR] at h ⊢
    split at h
    · split at h
      · obtain ⟨h1, h2, h3, v, M1, h4, h5, h⟩ := h
        obtain ⟨v9, M9, n9, q9, k9⟩ := hK _ _ _ _ h
        exact ⟨v9, M9, n9, q9, h1, h2, h3, v, M1, h4, h5, k9⟩
      · exact h.elim
    · exact h.elim
  case invokestatic i =>
    simp only [insR] at h ⊢
    split at h
    · split at h
      · obtain ⟨h1, h2, v, M1, h4, h5, h⟩ := h
        obtain ⟨v9, M9, n9, q9, k9⟩ := hK _ _ _ _ h
        exact ⟨v9, M9, n9, q9, h1, h2, v, M1, h4, h5, k9⟩
      · exact h.elim
    · exact h.elim
  all_goals first
    | exact False.elim h
    | exact hK _ _ _ _ h
    | (simp only [insR] at h ⊢
       split at h <;> first
        | exact h.elim
        | exact hK _ _ _ _ h)
theorem wpR_ex {C : Rrel} {t : List (Nat × Instr × Nat)} {oc : Nat} {rt : Option FieldType} {Qr : Option Value → Mem → Prop} :
    ∀ (n pc : Nat) (lv : Lv) (st : List Value) (M : Mem), wpR C t oc rt Qr n pc lv st M → ∃ v M1, nrf v ∧ Qr v M1 ∧ wpR C t oc rt (fun v' M' => v' = v ∧ M' = M1) n pc lv st M
  | 0, _, _, _, _, h => h.elim
  | n + 1, pc, lv, st, M, h => by
    simp only [wpR] at h ⊢
    split at h
    · exact insR_ex (Kx := fun v M1 => wpR C t oc rt (fun v' M' => v' = v ∧ M' = M1) n) (fun pc lv st M' h => wpR_ex n pc lv st M' h) h
    · exact h.elim
/-- a call of the reference's comes back, and Q holds of its answer and of the memory behind it -/
def CQ (d j : Nat) (av : List Value) (M : Mem) (Q : Option Value → Mem → Prop) : Prop := ∃ v M', nrf v ∧ CalR d j av M v M' ∧ Q v M'
theorem CQ_of {d j : Nat} {md : MD} {av : List Value} {M : Mem} {Q : Option Value → Mem → Prop} (hp : prog[j]? = some md) (hl : (lg_sl av).length ≤ md.2.2.1) (h : WR (CalR d) md.2.2.2.2.2.2.2 md.2.2.2.2.2.1 md.2.2.2.1 Q 0 (lv_args 0 av) [] M) : CQ (d + 1) j av M Q := by
  obtain ⟨n, h⟩ := h
  obtain ⟨v, M1, h1, h2, h3⟩ := wpR_ex n _ _ _ _ h
  refine ⟨v, M1, h1, ?_, h2⟩
  simp only [CalR, hp]
  exact ⟨hl, n, h3⟩
theorem CQ.mono {d j : Nat} {av : List Value} {M : Mem} {Q Q' : Option Value → Mem → Prop} (h : CQ d j av M Q) (hq : ∀ v M', Q v M' → Q' v M') : CQ d j av M Q' := by
  obtain ⟨v, M', h1, h2, h3⟩ := h
  exact ⟨v, M', h1, h2, hq v M' h3⟩
theorem CQ_ex {d j : Nat} {av : List Value} {M M1 : Mem} {v : Option Value} (hn : nrf v) (h : CalR d j av M v M1) : CQ d j av M (fun v' M' => v' = v ∧ M' = M1) := ⟨v, M1, hn, h, rfl, rfl⟩
section RQ
variable {d : Nat} {t : List (Nat × Instr × Nat)} {oc : Nat} {rt : Option FieldType} {Qr : Option Value → Mem → Prop} {pc : Nat} {lv : Lv} {st : List Value} {M : Mem} {len : Nat}
theorem R_vq {i j ix : Nat} {md : MD} {av rest : List Value} {Q : Option Value → Mem → Prop} (h : t.lookup pc = some (.invokevirtual i, len)) (hm : mres oc i = some (0, j, ix)) (hp : prog[j]? = some md) (h9 : md.2.2.2.2.2.1 = 9) (h0 : st[md.2.2.2.2.1]? = some (.ref 0)) (hav : .ref 0 :: (st.take md.2.2.2.2.1).reverse = av) (hrest : st.drop (md.2.2.2.2.1 + 1) = rest) (hw : wgt rest ≤ 8) (hc : CQ d j av M Q) (k : ∀ v M1, Q v M1 → WR (CalR d) t oc rt Qr (pc + 3) lv (v.toList ++ rest) M1) : WR (CalR d) t oc rt Qr pc lv st M := by
  obtain ⟨v, M1, h1, h2, h3⟩ := hc
  exact R_virt h hm hp h9 h0 hav hrest hw h1 h2 (k v M1 h3)
theorem R_sq {i j ix : Nat} {md : MD} {av rest : List Value} {Q : Option Value → Mem → Prop} (h : t.lookup pc = some (.invokestatic i, len)) (hm : mres oc i = some (1, j, ix)) (hp : prog[j]? = some md) (hln : md.2.2.2.2.1 ≤ st.length) (hav : (st.take md.2.2.2.2.1).reverse = av) (hrest : st.drop md.2.2.2.2.1 = rest) (hw : wgt rest ≤ 8) (hc : CQ d j av M Q) (k : ∀ v M1, Q v M1 → WR (CalR d) t oc rt Qr (pc + 3) lv (v.toList ++ rest) M1) : WR (CalR d) t oc rt Qr pc lv st M := by
  obtain ⟨v, M1, h1, h2, h3⟩ := hc
  exact R_stat h hm hp hln hav hrest hw h1 h2 (k v M1 h3)
end RQ
end
section
/-! ===== locals: a walk that knows fewer of them is one that knows more ===== -/
def kdb : Lv → Bool
  | [] => true
  | q :: l => !(l.any (fun r => r.1 == q.1)) && kdb l
theorem kdb_lk : ∀ {l : Lv} {i : Nat} {v : Value}, kdb l = true → (i, v) ∈ l → l.lookup i = some v
  | [], _, _, _, h => by cases h
  | (a, w) :: l, i, v, hd, h => by
    simp only [kdb, Bool.and_eq_true, Bool.not_eq_true'] at hd
    rw [List.lookup_cons]
    rcases List.mem_cons.mp h with h1 | h1
    · cases h1
      simp
    · have hne : (i == a) = false := by
        apply Bool.eq_false_iff.mpr
        intro q
        have h2 : l.any (fun r => r.1 == a) = true := List.any_eq_true.mpr ⟨(i, v), h1, q⟩
        rw [hd.1] at h2
        cases h2
      rw [hne]
      exact kdb_lk hd.2 h1
theorem kdb_fil (f : Nat × Value → Bool) : ∀ {l : Lv}, kdb l = true → kdb (l.filter f) = true
  | [], _ => rfl
  | q :: l, h => by
    simp only [kdb, Bool.and_eq_true, Bool.not_eq_true'] at h
    rw [List.filter_cons]
    split
    · simp only [kdb, Bool.and_eq_true, Bool.not_eq_true']
      refine ⟨?_, kdb_fil f h.2⟩
      apply Bool.eq_false_iff.mpr
      intro q2
      obtain ⟨r, h1, h2⟩ := List.any_eq_true.mp q2
      have h3 : l.any (fun r => r.1 == q.1) = true := List.any_eq_true.mpr ⟨r, (List.mem_filter.mp h1).1, h2⟩
      rw [h.1] at h3
      cases h3
    · exact kdb_fil f h.2
theorem kdb_cons {i : Nat} {v : Value} {l : Lv} {f : Nat × Value → Bool} (hf : ∀ q, f q = true → q.1 ≠ i) (h : kdb l = true) : kdb ((i, v) :: l.filter f) = true := by
  simp only [kdb, Bool.and_eq_true, Bool.not_eq_true']
  refine ⟨?_, kdb_fil f h⟩
  apply Bool.eq_false_iff.mpr
  intro q
  obtain ⟨r, h1, h2⟩ := List.any_eq_true.mp q
  exact hf r (List.mem_filter.mp h1).2 (by simpa using h2)
/-- all that l knows, l' knows; no local twice -/
def lsb (l l' : Lv) : Prop := kdb l = true ∧ kdb l' = true ∧ ∀ q ∈ l, q ∈ l'
theorem lsb.lk {l l' : Lv} (h : lsb l l') {i : Nat} {v : Value} (hl : l.lookup i = some v) : l'.lookup i = some v := kdb_lk h.2.1 (h.2.2 _ (lk_mem hl))
theorem lsb.st {l l' : Lv} (h : lsb l l') (i : Nat) (v : Value) : lsb (lvs i v l) (lvs i v l') := by
  have hf : ∀ q : Nat × Value, (!(q.1 == i) && !(q.1 + 1 == i && q.2.category == 2)) = true → q.1 ≠ i := fun q hq e => by simp [e] at hq
  refine ⟨kdb_cons hf h.1, kdb_cons hf h.2.1, fun q hq => ?_⟩
  rcases List.mem_cons.mp hq with h1 | h1
  · rw [h1]
    exact List.mem_cons_self
  · have h2 := List.mem_filter.mp h1
    exact List.mem_cons_of_mem _ (List.mem_filter.mpr ⟨h.2.2 q h2.1, h2.2⟩)
theorem lsb.sl {l l' : Lv} (h : lsb l l') (i : Nat) (v : Value) : lsb (lvl i v l) (lvl i v l') := by
  have hf : ∀ q : Nat × Value, (!(q.1 == i) && (!(q.1 == i + 1) && !(q.1 + 1 == i && q.2.category == 2))) = true → q.1 ≠ i := fun q hq e => by simp [e] at hq
  refine ⟨kdb_cons hf h.1, kdb_cons hf h.2.1, fun q hq => ?_⟩
  rcases List.mem_cons.mp hq with h1 | h1
  · rw [h1]
    exact List.mem_cons_self
  · have h2 := List.mem_filter.mp h1
    exact List.mem_cons_of_mem _ (List.mem_filter.mpr ⟨h.2.2 q h2.1, h2.2⟩)
theorem lsb_pick {l l' : Lv} (ks : List Nat) (hp : lv_pick l' ks = l) (h1 : kdb l = true) (h2 : kdb l' = true) : lsb l l' := by
  refine ⟨h1, h2, fun q hq => ?_⟩
  rw [← hp] at hq
  obtain ⟨k, -, hk⟩ := List.mem_filterMap.mp hq
  exact List.mem_of_getElem? hk
set_option maxHeartbeats 4000000 in
theorem insR_lv {C : Rrel} {oc : Nat} {rt : Option FieldType} {Qr : Option Value → Mem → Prop} {K : Nat → Lv → List Value → Mem → Prop} {pc : Nat} {lv lv' : Lv} {st : List Value} {M : Mem} {i : Instr}
    (hK : ∀ pc lv lv' st M, lsb lv lv' → K pc lv st M → K pc lv' st M) (hs : lsb lv lv') (h : insR C oc rt Qr K pc lv st M i) : insR C oc rt Qr K pc lv' st M i := by
  cases i
  case iload_n i =>
    simp only [insR] at h ⊢
    split at h
    · rename_i x hk
      rw [hs.lk hk]
      exact hK _ _ _ _ _ hs h
    · exact h.elim
  case iload i =>
    simp only [insR] at h ⊢
    split at h
    · rename_i x hk
      rw [hs.lk hk]
      exact hK _ _ _ _ _ hs h
    · exact h.elim
  case lload_n i =>
    simp only [insR] at h ⊢
    split at h
    · rename_i x hk
      rw [hs.lk hk]
      exact hK _ _ _ _ _ hs h
    · exact h.elim
  case lload i =>
    simp only [insR] at h ⊢
    split at h
    · rename_i x hk
      rw [hs.lk hk]
      exact hK _ _ _ _ _ hs h
    · exact h.elim
  case aload_n i =>
    simp only [insR] at h ⊢
    split at h
    · rename_i x hk
      rw [hs.lk hk]
      exact hK _ _ _ _ _ hs h
    · exact h.elim
  case istore_n i =>
    simp only [insR] at h ⊢
    split at h <;> first
      | exact h.elim
      | exact hK _ _ _ _ _ (hs.st _ _) h
  case istore i =>
    simp only [insR] at h ⊢
    split at h <;> first
      | exact h.elim
      | exact hK _ _ _ _ _ (hs.st _ _) h
  case lstore_n i =>
    simp only [insR] at h ⊢
    split at h <;> first
      | exact h.elim
      | exact hK _ _ _ _ _ (hs.sl _ _) h
  case lstore i =>
    simp only [insR] at h ⊢
    split at h <;> first
      | exact h.elim
      | exact hK _ _ _ _ _ (hs.sl _ _) h
  case iinc i n =>
    simp only [insR] at h ⊢
    split at h
    · rename_i x hk
      rw [hs.lk hk]
      exact hK _ _ _ _ _ (hs.st _ _) h
    · exact h.elim
  case getfield i =>
    simp only [insR] at h ⊢
    split at h
    · split at h <;> first
        | exact h.elim
        | exact hK _ _ _ _ _ hs h
    · exact h.elim
  case putfield i =>
    simp only [insR] at h ⊢
    split at h
    · split at h <;> first
        | exact h.elim
        | exact hK _ _ _ _ _ hs h
        | exact ⟨h.1, hK _ _ _ _ _ hs h.2⟩
    · exact h.elim
  case iaload =>
    simp only [insR] at h ⊢
    split at h
    · split at h <;> first
        | exact h.elim
        | exact ⟨h.1, hK _ _ _ _ _ hs h.2⟩
    · exact h.elim
  case baload =>
    simp only [insR] at h ⊢
    split at h
    · split at h <;> first
        | exact h.elim
        | exact ⟨h.1, hK _ _ _ _ _ hs h.2⟩
    · exact h.elim
  case iastore =>
    simp only [insR] at h ⊢
    split at h
    · split at h <;> first
        | exact h.elim
        | exact ⟨h.1, hK _ _ _ _ _ hs h.2⟩
    · exact h.elim
  case bastore =>
    simp only [insR] at h ⊢
    split at h
    · split at h <;> first
        | exact h.elim
        | exact ⟨h.1, h.2.1, hK _ _ _ _ _ hs h.2.2⟩
    · exact h.elim
  case invokevirtual i =>
    simp only [insR] at h ⊢
    split at h
    · split at h
      · obtain ⟨h1, h2, h3, v, M1, h4, h5, h⟩ := h
        exact ⟨h1, h2, h3, v, M1, h4, h5, hK _ _ _ _ _ hs h⟩
      · exact h.elim
    · exact h.elim
  case invokestatic i =>
    simp only [insR] at h ⊢
    split at h
    · split at h
      · obtain ⟨h1, h2, v, M1, h4, h5, h⟩ := h
        exact ⟨h1, h2, v, M1, h4, h5, hK _ _ _ _ _ hs h⟩
      · exact h.elim
    · exact h.elim
  all_goals first
    | exact False.elim h
    | exact hK _ _ _ _ _ hs h
    | (simp only [insR] at h ⊢
       split at h <;> first
        | exact h.elim
        | exact h
        | exact hK _ _ _ _ _ hs h
        | exact ⟨h.1, hK _ _ _ _ _ hs h.2⟩
        | exact ⟨fun q => hK _ _ _ _ _ hs (h.1 q), fun q => hK _ _ _ _ _ hs (h.2 q)⟩)
theorem wpR_lv {C : Rrel} {t : List (Nat × Instr × Nat)} {oc : Nat} {rt : Option FieldType} {Qr : Option Value → Mem → Prop} :
    ∀ (n pc : Nat) (lv lv' : Lv) (st : List Value) (M : Mem), lsb lv lv' → wpR C t oc rt Qr n pc lv st M → wpR C t oc rt Qr n pc lv' st M
  | 0, _, _, _, _, _, _, h => h
  | n + 1, pc, lv, lv', st, M, hs, h => by
    simp only [wpR] at h ⊢
    split at h
    · exact insR_lv (fun pc lv lv' st M hs h => wpR_lv n pc lv lv' st M hs h) hs h
    · exact h.elim
/-- go on with fewer locals: lv is made of places ks of lv' -/
theorem R_sub {C : Rrel} {t : List (Nat × Instr × Nat)} {oc : Nat} {rt : Option FieldType} {Qr : Option Value → Mem → Prop} {pc : Nat} {lv lv' : Lv} {st : List Value} {M : Mem} (ks : List Nat) (hp : lv_pick lv' ks = lv) (h1 : kdb lv = true) (h2 : kdb lv' = true) (k : WR C t oc rt Qr pc lv st M) : WR C t oc rt Qr pc lv' st M := by
  obtain ⟨n, k⟩ := k
  exact ⟨n, wpR_lv n _ _ _ _ _ (lsb_pick ks hp h1 h2) k⟩
set_option maxHeartbeats 4000000 in
theorem ins_lv {z b L : Nat} {xs : Nat → Int32} {C : Crel} {oc : Nat} {rt : Option FieldType} {Qr : Option Value → Hp → Prop} {K : Nat → Lv → List Value → Hp → Prop} {pc : Nat} {lv lv' : Lv} {st : List Value} {σ : Hp} {i : Instr}
    (hK : ∀ pc lv lv' st σ, lsb lv lv' → K pc lv st σ → K pc lv' st σ) (hs : lsb lv lv') (h : ins z b L xs C oc rt Qr K pc lv st σ i) : ins z b L xs C oc rt Qr K pc lv' st σ i := by
  cases i
  case iload_n i =>
    simp only [ins] at h ⊢
    split at h
    · rename_i x hk
      rw [hs.lk hk]
      exact hK _ _ _ _ _ hs h
    · exact h.elim
  case iload i =>
    simp only [ins] at h ⊢
    split at h
    · rename_i x hk
      rw [hs.lk hk]
      exact hK _ _ _ _ _ hs h
    · exact h.elim
  case lload_n i =>
    simp only [ins] at h ⊢
    split at h
    · rename_i x hk
      rw [hs.lk hk]
      exact hK _ _ _ _ _ hs h
    · exact h.elim
  case lload i =>
    simp only [ins] at h ⊢
    split at h
    · rename_i x hk
      rw [hs.lk hk]
      exact hK _ _ _ _ _ hs h
    · exact h.elim
  case aload_n i =>
    simp only [ins] at h ⊢
    split at h
    · rename_i x hk
      rw [hs.lk hk]
      exact hK _ _ _ _ _ hs h
    · rename_i hk
      rw [hs.lk hk]
      exact hK _ _ _ _ _ hs h
    · exact h.elim
  case aload i =>
    simp only [ins] at h ⊢
    split at h
    · rename_i x hk
      rw [hs.lk hk]
      exact hK _ _ _ _ _ hs h
    · rename_i hk
      rw [hs.lk hk]
      exact hK _ _ _ _ _ hs h
    · exact h.elim
  case istore_n i =>
    simp only [ins] at h ⊢
    split at h <;> first
      | exact h.elim
      | exact hK _ _ _ _ _ (hs.st _ _) h
  case istore i =>
    simp only [ins] at h ⊢
    split at h <;> first
      | exact h.elim
      | exact hK _ _ _ _ _ (hs.st _ _) h
  case astore_n i =>
    simp only [ins] at h ⊢
    split at h <;> first
      | exact h.elim
      | exact hK _ _ _ _ _ (hs.st _ _) h
  case astore i =>
    simp only [ins] at h ⊢
    split at h <;> first
      | exact h.elim
      | exact hK _ _ _ _ _ (hs.st _ _) h
  case lstore_n i =>
    simp only [ins] at h ⊢
    split at h <;> first
      | exact h.elim
      | exact hK _ _ _ _ _ (hs.sl _ _) h
  case lstore i =>
    simp only [ins] at h ⊢
    split at h <;> first
      | exact h.elim
      | exact hK _ _ _ _ _ (hs.sl _ _) h
  case iinc i n =>
    simp only [ins] at h ⊢
    split at h
    · rename_i x hk
      rw [hs.lk hk]
      exact hK _ _ _ _ _ (hs.st _ _) h
    · exact h.elim
  case getfield i =>
    simp only [ins] at h ⊢
    split at h
    · obtain ⟨fs, v, h1, h2, h⟩ := h
      exact ⟨fs, v, h1, h2, hK _ _ _ _ _ hs h⟩
    · exact h.elim
  case putfield i =>
    simp only [ins] at h ⊢
    split at h
    · obtain ⟨fs, h1, h2, h3, h⟩ := h
      exact ⟨fs, h1, h2, h3, hK _ _ _ _ _ hs h⟩
    · exact h.elim
  case iaload =>
    simp only [ins] at h ⊢
    split at h
    · obtain ⟨n, f, h1, h2, h⟩ := h
      exact ⟨n, f, h1, h2, hK _ _ _ _ _ hs h⟩
    · exact h.elim
  case laload =>
    simp only [ins] at h ⊢
    split at h
    · obtain ⟨n, f, h1, h2, h⟩ := h
      exact ⟨n, f, h1, h2, hK _ _ _ _ _ hs h⟩
    · exact h.elim
  case baload =>
    simp only [ins] at h ⊢
    split at h
    · obtain ⟨n, f, h1, h2, h⟩ := h
      exact ⟨n, f, h1, h2, hK _ _ _ _ _ hs h⟩
    · exact h.elim
  case aaload =>
    simp only [ins] at h ⊢
    split at h
    · obtain ⟨t, n, f, h1, h2, h3, h⟩ := h
      exact ⟨t, n, f, h1, h2, h3, hK _ _ _ _ _ hs h⟩
    · exact h.elim
  case iastore =>
    simp only [ins] at h ⊢
    split at h
    · obtain ⟨n, f, h1, h2, h3, h⟩ := h
      exact ⟨n, f, h1, h2, h3, hK _ _ _ _ _ hs h⟩
    · exact h.elim
  case lastore =>
    simp only [ins] at h ⊢
    split at h
    · obtain ⟨n, f, h1, h2, h⟩ := h
      exact ⟨n, f, h1, h2, hK _ _ _ _ _ hs h⟩
    · exact h.elim
  case arraylength =>
    simp only [ins] at h ⊢
    split at h
    · obtain ⟨t, n, x, h1, h2, h⟩ := h
      exact ⟨t, n, x, h1, h2, hK _ _ _ _ _ hs h⟩
    · exact h.elim
  case anewarray i =>
    simp only [ins] at h ⊢
    split at h
    · obtain ⟨h1, h2, h⟩ := h
      exact ⟨h1, h2, hK _ _ _ _ _ hs h⟩
    · exact h.elim
  case bastore =>
    simp only [ins] at h ⊢
    split at h
    · obtain ⟨n, f, h1, ⟨h2, h⟩ | ⟨h2, h⟩⟩ := h
      · exact ⟨n, f, h1, Or.inl ⟨h2, hK _ _ _ _ _ hs h⟩⟩
      · exact ⟨n, f, h1, Or.inr ⟨h2, hK _ _ _ _ _ hs h⟩⟩
    · exact h.elim
  case aastore =>
    simp only [ins] at h ⊢
    split at h
    · obtain ⟨t, n, f, fs, h1, h2, h3, h⟩ := h
      exact ⟨t, n, f, fs, h1, h2, h3, hK _ _ _ _ _ hs h⟩
    · obtain ⟨t, n, f, h1, h2, h3, h⟩ := h
      exact ⟨t, n, f, h1, h2, h3, hK _ _ _ _ _ hs h⟩
    · exact h.elim
  case newarray t =>
    simp only [ins] at h ⊢
    split at h
    · obtain ⟨h1, h2, h⟩ := h
      refine ⟨h1, h2, ?_⟩
      cases t <;> first
        | exact h.elim
        | exact hK _ _ _ _ _ hs h
    · exact h.elim
  case if_acmp c f =>
    simp only [ins] at h ⊢
    split at h
    · obtain ⟨rx, ry, h1, h2, h⟩ := h
      refine ⟨rx, ry, h1, h2, ?_⟩
      cases c <;> exact ⟨fun q => hK _ _ _ _ _ hs (h.1 q), fun q => hK _ _ _ _ _ hs (h.2 q)⟩
    · exact h.elim
  case invokevirtual i =>
    simp only [ins] at h ⊢
    split at h
    · split at h
      · obtain ⟨a, fs, v, σ1, h1, h2, h3, h4, h⟩ := h
        exact ⟨a, fs, v, σ1, h1, h2, h3, h4, hK _ _ _ _ _ hs h⟩
      · exact h.elim
    · exact h.elim
  case invokestatic i =>
    simp only [ins] at h ⊢
    split at h
    · split at h
      · obtain ⟨h1, h2, h3, h4, ⟨n0, n1, f, g, g0, g1, g2, g3, g4, h⟩ | ⟨n0, n1, f, g, g0, g1, g2, g3, h⟩⟩ := h
        · exact ⟨h1, h2, h3, h4, Or.inl ⟨n0, n1, f, g, g0, g1, g2, g3, g4, hK _ _ _ _ _ hs h⟩⟩
        · exact ⟨h1, h2, h3, h4, Or.inr ⟨n0, n1, f, g, g0, g1, g2, g3, hK _ _ _ _ _ hs h⟩⟩
      · exact h.elim
    · split at h
      · exact ⟨h.1, hK _ _ _ _ _ hs h.2⟩
      · exact h.elim
    · split at h
      · exact ⟨h.1, hK _ _ _ _ _ hs h.2⟩
      · exact h.elim
    · obtain ⟨hk, h⟩ := h
      refine ⟨hk, ?_⟩
      split at h
      · obtain ⟨v, σ1, h1, h2, h3, h⟩ := h
        exact ⟨v, σ1, h1, h2, h3, hK _ _ _ _ _ hs h⟩
      · exact h.elim
    · exact h.elim
  case invokespecial i =>
    simp only [ins] at h ⊢
    split at h
    · split at h
      · exact ⟨h.1, hK _ _ _ _ _ hs h.2⟩
      · exact h.elim
    · obtain ⟨hk, h⟩ := h
      refine ⟨hk, ?_⟩
      split at h
      · obtain ⟨a, v, σ1, h1, h2, h3, h⟩ := h
        exact ⟨a, v, σ1, h1, h2, h3, hK _ _ _ _ _ hs h⟩
      · exact h.elim
    · exact h.elim
  all_goals first
    | exact False.elim h
    | exact hK _ _ _ _ _ hs h
    | (simp only [ins] at h ⊢
       split at h <;> first
        | exact h.elim
        | exact h
        | exact hK _ _ _ _ _ hs h
        | exact ⟨h.1, hK _ _ _ _ _ hs h.2⟩
        | exact ⟨h.1, h.2.1, hK _ _ _ _ _ hs h.2.2⟩
        | exact ⟨fun q => hK _ _ _ _ _ hs (h.1 q), fun q => hK _ _ _ _ _ hs (h.2 q)⟩)
theorem wp_lv {z b L : Nat} {xs : Nat → Int32} {C : Crel} {t : List (Nat × Instr × Nat)} {oc : Nat} {rt : Option FieldType} {Qr : Option Value → Hp → Prop} :
    ∀ (n pc : Nat) (lv lv' : Lv) (st : List Value) (σ : Hp), lsb lv lv' → wp z b L xs C t oc rt Qr n pc lv st σ → wp z b L xs C t oc rt Qr n pc lv' st σ
  | 0, _, _, _, _, _, _, h => h
  | n + 1, pc, lv, lv', st, σ, hs, h => by
    simp only [wp] at h ⊢
    split at h
    · exact ins_lv (fun pc lv lv' st σ hs h => wp_lv n pc lv lv' st σ hs h) hs h
    · exact h.elim
end
section
/-! ===== the reference: clear, asm, wipe ===== -/
/-- the first s places of the array k0 hold x -/
def fil (M : Mem) (k0 s : Nat) (x : Int32) : Mem := fun k => if k = k0 then (fun j => if j < s then x else M k0 j) else M k
theorem fil_0 (M : Mem) (k0 : Nat) (x : Int32) : fil M k0 0 x = M := by
  funext k j
  unfold fil
  by_cases h : k = k0
  · subst h
    simp
  · simp [h]
theorem fil_s (M : Mem) (k0 s : Nat) (x : Int32) : up2 (fil M k0 s x) k0 s x = fil M k0 (s + 1) x := by
  funext k j
  unfold fil up2 upd
  by_cases h : k = k0
  · subst h
    simp only [if_true]
    by_cases h1 : j = s
    · subst h1
      simp
    · by_cases h2 : j < s
      · rw [if_neg h1, if_pos h2, if_pos (by omega)]
      · rw [if_neg h1, if_neg h2, if_neg (by omega)]
  · simp [h]
theorem fil_up {M : Mem} {k0 s k j : Nat} {x y : Int32} (h : k ≠ k0) : up2 (fil M k0 s x) k j y = fil (up2 M k j y) k0 s x := by
  funext k' j'
  unfold fil up2 upd
  by_cases h1 : k' = k
  · subst h1
    simp [h]
  · by_cases h2 : k' = k0
    · subst h2
      simp [h1]
    · simp [h1, h2]
def cl1 (M : Mem) : Mem := up2 (up2 (up2 (up2 (up2 (up2 (up2 (up2 (up2 M 9 0 0) 10 0 0) 11 0 0) 14 0 0) 22 0 1) 15 0 0) 17 0 0) 18 0 0) 19 0 16
def cl2 (M : Mem) (s : Nat) : Mem := fil (fil (fil (fil M 20 s 0) 21 s 0) 23 s 0) 24 s 0
def cl6 (M : Mem) : Mem := up2 (up2 (up2 (up2 (up2 (up2 M 40 0 0) 41 0 0) 42 0 0) 43 0 0) 44 0 0) 45 0 0
def clrM (M : Mem) : Mem := up2 (up2 (fil (cl6 (fil (up2 (fil (cl2 (cl1 M) 16) 25 4 (-1)) 28 0 0) 29 1500 0)) 47 2000 (-1)) 52 0 0) 53 0 0
theorem cl2_s (M : Mem) (s : Nat) : up2 (up2 (up2 (up2 (cl2 M s) 20 s 0) 21 s 0) 23 s 0) 24 s 0 = cl2 M (s + 1) := by
  unfold cl2
  rw [fil_up (by decide : (20 : Nat) ≠ 24), fil_up (by decide : (20 : Nat) ≠ 23), fil_up (by decide : (20 : Nat) ≠ 21), fil_s]
  rw [fil_up (by decide : (21 : Nat) ≠ 24), fil_up (by decide : (21 : Nat) ≠ 23), fil_s]
  rw [fil_up (by decide : (23 : Nat) ≠ 24), fil_s, fil_s]
theorem cl2_0 (M : Mem) : cl2 M 0 = M := by
  unfold cl2
  rw [fil_0, fil_0, fil_0, fil_0]
theorem r_clear {d : Nat} {M : Mem} : CalR (d + 1) j_X9_clear [.ref 0] M none (clrM M) := by
  refine CalR_of (md := md_X9_clear) rfl (Nat.le_of_ble_eq_true rfl) ?_
  show WR (CalR d) t_X9_clear 9 none _ 0 [(0, .ref 0)] [] _
  refine R_aload_n rfl rfl ?_
  refine R_iconst (y := nI 0) rfl (by decide) ?_
  refine R_put rfl rfl rfl ?_
  refine R_aload_n rfl rfl ?_
  refine R_iconst (y := nI 0) rfl (by decide) ?_
  refine R_put rfl rfl rfl ?_
  refine R_aload_n rfl rfl ?_
  refine R_iconst (y := nI 0) rfl (by decide) ?_
  refine R_put rfl rfl rfl ?_
  refine R_aload_n rfl rfl ?_
  refine R_iconst (y := nI 0) rfl (by decide) ?_
  refine R_put rfl rfl rfl ?_
  refine R_aload_n rfl rfl ?_
  refine R_iconst (y := nI 1) rfl (by decide) ?_
  refine R_put rfl rfl rfl ?_
  refine R_aload_n rfl rfl ?_
  refine R_getA rfl rfl (Or.inl rfl) ?_
  refine R_iconst (y := nI 0) rfl (by decide) ?_
  refine R_iconst (y := nI 0) rfl (by decide) ?_
  refine R_iast rfl rfl rfl (show _ < 200 from by omega) ?_
  refine R_aload_n rfl rfl ?_
  refine R_getA rfl rfl (Or.inl rfl) ?_
  refine R_iconst (y := nI 0) rfl (by decide) ?_
  refine R_iconst (y := nI 0) rfl (by decide) ?_
  refine R_iast rfl rfl rfl (show _ < 200 from by omega) ?_
  refine R_aload_n rfl rfl ?_
  refine R_getA rfl rfl (Or.inl rfl) ?_
  refine R_iconst (y := nI 0) rfl (by decide) ?_
  refine R_iconst (y := nI 0) rfl (by decide) ?_
  refine R_iast rfl rfl rfl (show _ < 200 from by omega) ?_
  refine R_aload_n rfl rfl ?_
  refine R_getA rfl rfl (Or.inl rfl) ?_
  refine R_iconst (y := nI 0) rfl (by decide) ?_
  refine R_bipush (y := nI 16) rfl (by decide) ?_
  refine R_iast rfl rfl rfl (show _ < 200 from by omega) ?_
  refine R_iconst (y := nI 0) rfl (by decide) ?_
  refine R_istore_n (lv' := [(1, _), (0, _)]) rfl rfl ?_
  have l4 : ∀ (k s : Nat) (M4 : Mem), s ≤ 2000 → 2000 - s ≤ k → clrM M = up2 (up2 (fil M4 47 2000 (-1)) 52 0 0) 53 0 0 → WR (CalR d) t_X9_clear 9 none (fun v' M' => v' = none ∧ M' = clrM M) 175 [(1, .int (nI s)), (0, .ref 0)] [] (fil M4 47 s (-1)) := by
    intro k
    induction k with
    | zero =>
      intro s M4 hs hk hM
      obtain rfl : s = 2000 := by omega
      refine R_iload_n rfl rfl ?_
      refine R_sipush (y := nI 2000) rfl (by decide) ?_
      refine R_icmp (pc' := 195) rfl rfl (fun hc => ?_) (fun hc => ?_)
      · rw [hM]
        refine R_aload_n rfl rfl ?_
        refine R_iconst (y := nI 0) rfl (by decide) ?_
        refine R_put rfl rfl rfl ?_
        refine R_aload_n rfl rfl ?_
        refine R_iconst (y := nI 0) rfl (by decide) ?_
        refine R_put rfl rfl rfl ?_
        exact R_ret rfl rfl ⟨rfl, rfl⟩
      · exact absurd (show nI 2000 ≤ nI 2000 from Int32.le_refl _) hc
    | succ k ih =>
      intro s M4 hs hk hM
      refine R_iload_n rfl rfl ?_
      refine R_sipush (y := nI 2000) rfl (by decide) ?_
      refine R_icmp (pc' := 195) rfl rfl (fun hc => ?_) (fun hc => ?_)
      · have : s = 2000 := by
          apply Classical.byContradiction
          intro hne
          exact nI_ge (show s < 2000 by omega) (by decide) hc
        subst this
        rw [hM]
        refine R_aload_n rfl rfl ?_
        refine R_iconst (y := nI 0) rfl (by decide) ?_
        refine R_put rfl rfl rfl ?_
        refine R_aload_n rfl rfl ?_
        refine R_iconst (y := nI 0) rfl (by decide) ?_
        refine R_put rfl rfl rfl ?_
        exact R_ret rfl rfl ⟨rfl, rfl⟩
      · have hlt : s < 2000 := Nat.lt_of_not_le (fun q => hc (nI_le q (by omega)))
        refine R_aload_n rfl rfl ?_
        refine R_getA rfl rfl (Or.inl rfl) ?_
        refine R_iload_n rfl rfl ?_
        refine R_iconst (y := (-1)) rfl (by decide) ?_
        refine R_iast rfl rfl rfl (show _ < 2000 from by omega) ?_
        refine R_iinc (lv' := [(1, _), (0, _)]) rfl rfl (by exact nI_1 _) rfl ?_
        refine R_goto (pc' := 175) rfl rfl ?_
        rw [fil_s]
        exact ih (s + 1) M4 (by omega) (by omega) hM
  have l3 : ∀ (k s : Nat) (M3 : Mem), s ≤ 1500 → 1500 - s ≤ k → clrM M = up2 (up2 (fil (cl6 (fil M3 29 1500 0)) 47 2000 (-1)) 52 0 0) 53 0 0 → WR (CalR d) t_X9_clear 9 none (fun v' M' => v' = none ∧ M' = clrM M) 123 [(1, .int (nI s)), (0, .ref 0)] [] (fil M3 29 s 0) := by
    intro k
    induction k with
    | zero =>
      intro s M3 hs hk hM
      obtain rfl : s = 1500 := by omega
      refine R_iload_n rfl rfl ?_
      refine R_sipush (y := nI 1500) rfl (by decide) ?_
      refine R_icmp (pc' := 143) rfl rfl (fun hc => ?_) (fun hc => ?_)
      · refine R_aload_n rfl rfl ?_
        refine R_iconst (y := nI 0) rfl (by decide) ?_
        refine R_put rfl rfl rfl ?_
        refine R_aload_n rfl rfl ?_
        refine R_iconst (y := nI 0) rfl (by decide) ?_
        refine R_put rfl rfl rfl ?_
        refine R_aload_n rfl rfl ?_
        refine R_iconst (y := nI 0) rfl (by decide) ?_
        refine R_put rfl rfl rfl ?_
        refine R_aload_n rfl rfl ?_
        refine R_iconst (y := nI 0) rfl (by decide) ?_
        refine R_put rfl rfl rfl ?_
        refine R_aload_n rfl rfl ?_
        refine R_iconst (y := nI 0) rfl (by decide) ?_
        refine R_put rfl rfl rfl ?_
        refine R_aload_n rfl rfl ?_
        refine R_iconst (y := nI 0) rfl (by decide) ?_
        refine R_put rfl rfl rfl ?_
        refine R_iconst (y := nI 0) rfl (by decide) ?_
        refine R_istore_n (lv' := [(1, _), (0, _)]) rfl rfl ?_
        have h0 := l4 2000 0 (cl6 (fil M3 29 1500 0)) (by omega) (by omega) hM
        rw [fil_0] at h0
        exact h0
      · exact absurd (show nI 1500 ≤ nI 1500 from Int32.le_refl _) hc
    | succ k ih =>
      intro s M3 hs hk hM
      refine R_iload_n rfl rfl ?_
      refine R_sipush (y := nI 1500) rfl (by decide) ?_
      refine R_icmp (pc' := 143) rfl rfl (fun hc => ?_) (fun hc => ?_)
      · have : s = 1500 := by
          apply Classical.byContradiction
          intro hne
          exact nI_ge (show s < 1500 by omega) (by decide) hc
        subst this
        refine R_aload_n rfl rfl ?_
        refine R_iconst (y := nI 0) rfl (by decide) ?_
        refine R_put rfl rfl rfl ?_
        refine R_aload_n rfl rfl ?_
        refine R_iconst (y := nI 0) rfl (by decide) ?_
        refine R_put rfl rfl rfl ?_
        refine R_aload_n rfl rfl ?_
        refine R_iconst (y := nI 0) rfl (by decide) ?_
        refine R_put rfl rfl rfl ?_
        refine R_aload_n rfl rfl ?_
        refine R_iconst (y := nI 0) rfl (by decide) ?_
        refine R_put rfl rfl rfl ?_
        refine R_aload_n rfl rfl ?_
        refine R_iconst (y := nI 0) rfl (by decide) ?_
        refine R_put rfl rfl rfl ?_
        refine R_aload_n rfl rfl ?_
        refine R_iconst (y := nI 0) rfl (by decide) ?_
        refine R_put rfl rfl rfl ?_
        refine R_iconst (y := nI 0) rfl (by decide) ?_
        refine R_istore_n (lv' := [(1, _), (0, _)]) rfl rfl ?_
        have h0 := l4 2000 0 (cl6 (fil M3 29 1500 0)) (by omega) (by omega) hM
        rw [fil_0] at h0
        exact h0
      · have hlt : s < 1500 := Nat.lt_of_not_le (fun q => hc (nI_le q (by omega)))
        refine R_aload_n rfl rfl ?_
        refine R_getA rfl rfl (Or.inl rfl) ?_
        refine R_iload_n rfl rfl ?_
        refine R_iconst (y := nI 0) rfl (by decide) ?_
        refine R_iast rfl rfl rfl (show _ < 1500 from by omega) ?_
        refine R_iinc (lv' := [(1, _), (0, _)]) rfl rfl (by exact nI_1 _) rfl ?_
        refine R_goto (pc' := 123) rfl rfl ?_
        rw [nI_0, fil_s]
        exact ih (s + 1) M3 (by omega) (by omega) hM
  have l2 : ∀ (k s : Nat) (M2 : Mem), s ≤ 4 → 4 - s ≤ k → clrM M = up2 (up2 (fil (cl6 (fil (up2 (fil M2 25 4 (-1)) 28 0 0) 29 1500 0)) 47 2000 (-1)) 52 0 0) 53 0 0 → WR (CalR d) t_X9_clear 9 none (fun v' M' => v' = none ∧ M' = clrM M) 98 [(1, .int (nI s)), (0, .ref 0)] [] (fil M2 25 s (-1)) := by
    intro k
    induction k with
    | zero =>
      intro s M2 hs hk hM
      obtain rfl : s = 4 := by omega
      refine R_iload_n rfl rfl ?_
      refine R_iconst (y := nI 4) rfl (by decide) ?_
      refine R_icmp (pc' := 116) rfl rfl (fun hc => ?_) (fun hc => ?_)
      · refine R_aload_n rfl rfl ?_
        refine R_iconst (y := nI 0) rfl (by decide) ?_
        refine R_put rfl rfl rfl ?_
        refine R_iconst (y := nI 0) rfl (by decide) ?_
        refine R_istore_n (lv' := [(1, _), (0, _)]) rfl rfl ?_
        have h0 := l3 1500 0 (up2 (fil M2 25 4 (-1)) 28 0 0) (by omega) (by omega) hM
        rw [fil_0] at h0
        exact h0
      · exact absurd (show nI 4 ≤ nI 4 from Int32.le_refl _) hc
    | succ k ih =>
      intro s M2 hs hk hM
      refine R_iload_n rfl rfl ?_
      refine R_iconst (y := nI 4) rfl (by decide) ?_
      refine R_icmp (pc' := 116) rfl rfl (fun hc => ?_) (fun hc => ?_)
      · have : s = 4 := by
          apply Classical.byContradiction
          intro hne
          exact nI_ge (show s < 4 by omega) (by decide) hc
        subst this
        refine R_aload_n rfl rfl ?_
        refine R_iconst (y := nI 0) rfl (by decide) ?_
        refine R_put rfl rfl rfl ?_
        refine R_iconst (y := nI 0) rfl (by decide) ?_
        refine R_istore_n (lv' := [(1, _), (0, _)]) rfl rfl ?_
        have h0 := l3 1500 0 (up2 (fil M2 25 4 (-1)) 28 0 0) (by omega) (by omega) hM
        rw [fil_0] at h0
        exact h0
      · have hlt : s < 4 := Nat.lt_of_not_le (fun q => hc (nI_le q (by omega)))
        refine R_aload_n rfl rfl ?_
        refine R_getA rfl rfl (Or.inl rfl) ?_
        refine R_iload_n rfl rfl ?_
        refine R_iconst (y := (-1)) rfl (by decide) ?_
        refine R_iast rfl rfl rfl (show _ < 4 from by omega) ?_
        refine R_iinc (lv' := [(1, _), (0, _)]) rfl rfl (by exact nI_1 _) rfl ?_
        refine R_goto (pc' := 98) rfl rfl ?_
        rw [fil_s]
        exact ih (s + 1) M2 (by omega) (by omega) hM
  have l1 : ∀ (k s : Nat), s ≤ 16 → 16 - s ≤ k → WR (CalR d) t_X9_clear 9 none (fun v' M' => v' = none ∧ M' = clrM M) 56 [(1, .int (nI s)), (0, .ref 0)] [] (cl2 (cl1 M) s) := by
    intro k
    induction k with
    | zero =>
      intro s hs hk
      obtain rfl : s = 16 := by omega
      refine R_iload_n rfl rfl ?_
      refine R_bipush (y := nI 16) rfl (by decide) ?_
      refine R_icmp (pc' := 96) rfl rfl (fun hc => ?_) (fun hc => ?_)
      · refine R_iconst (y := nI 0) rfl (by decide) ?_
        refine R_istore_n (lv' := [(1, _), (0, _)]) rfl rfl ?_
        have h0 := l2 4 0 (cl2 (cl1 M) 16) (by omega) (by omega) rfl
        rw [fil_0] at h0
        exact h0
      · exact absurd (show nI 16 ≤ nI 16 from Int32.le_refl _) hc
    | succ k ih =>
      intro s hs hk
      refine R_iload_n rfl rfl ?_
      refine R_bipush (y := nI 16) rfl (by decide) ?_
      refine R_icmp (pc' := 96) rfl rfl (fun hc => ?_) (fun hc => ?_)
      · have : s = 16 := by
          apply Classical.byContradiction
          intro hne
          exact nI_ge (show s < 16 by omega) (by decide) hc
        subst this
        refine R_iconst (y := nI 0) rfl (by decide) ?_
        refine R_istore_n (lv' := [(1, _), (0, _)]) rfl rfl ?_
        have h0 := l2 4 0 (cl2 (cl1 M) 16) (by omega) (by omega) rfl
        rw [fil_0] at h0
        exact h0
      · have hlt : s < 16 := Nat.lt_of_not_le (fun q => hc (nI_le q (by omega)))
        refine R_aload_n rfl rfl ?_
        refine R_getA rfl rfl (Or.inl rfl) ?_
        refine R_iload_n rfl rfl ?_
        refine R_iconst (y := nI 0) rfl (by decide) ?_
        refine R_iast rfl rfl rfl (show _ < 3200 from by omega) ?_
        refine R_aload_n rfl rfl ?_
        refine R_getA rfl rfl (Or.inl rfl) ?_
        refine R_iload_n rfl rfl ?_
        refine R_iconst (y := nI 0) rfl (by decide) ?_
        refine R_iast rfl rfl rfl (show _ < 3200 from by omega) ?_
        refine R_aload_n rfl rfl ?_
        refine R_getA rfl rfl (Or.inl rfl) ?_
        refine R_iload_n rfl rfl ?_
        refine R_iconst (y := nI 0) rfl (by decide) ?_
        refine R_iast rfl rfl rfl (show _ < 16 from by omega) ?_
        refine R_aload_n rfl rfl ?_
        refine R_getA rfl rfl (Or.inl rfl) ?_
        refine R_iload_n rfl rfl ?_
        refine R_iconst (y := nI 0) rfl (by decide) ?_
        refine R_iast rfl rfl rfl (show _ < 16 from by omega) ?_
        refine R_iinc (lv' := [(1, _), (0, _)]) rfl rfl (by exact nI_1 _) rfl ?_
        refine R_goto (pc' := 56) rfl rfl ?_
        rw [nI_0, cl2_s]
        exact ih (s + 1) (by omega) (by omega)
  have h0 := l1 16 0 (by omega) (by omega)
  rw [cl2_0] at h0
  exact h0
def asmM (M : Mem) (w : Nat) (o a b : Int32) : Mem := clrM (up2 (up2 (up2 (up2 (up2 M 2 w o) 3 w a) 4 w b) 5 0 (nI (w + 1))) 7 0 0)
theorem r_asm {d : Nat} {M : Mem} {w : Nat} {o a b : Int32} (hw : M 5 0 = nI w) (hw2 : w < 2000) : CalR (d + 2) j_X9_asm [.ref 0, .int o, .int a, .int b] M (some (.int (nI (w + 1)))) (asmM M w o a b) := by
  refine CalR_of (md := md_X9_asm) (d := d + 1) rfl (Nat.le_of_ble_eq_true rfl) ?_
  show WR (CalR (d + 1)) t_X9_asm 9 (some .int) _ 0 [(0, .ref 0), (1, .int o), (2, .int a), (3, .int b)] [] _
  refine R_aload_n rfl rfl ?_
  refine R_getI rfl rfl (Or.inl rfl) ?_
  try refine R_top (y := nI _) (by assumption) ?_
  refine R_sipush (y := nI 2000) rfl (by decide) ?_
  refine R_icmp (pc' := 13) rfl rfl (fun hc => ?_) (fun hc => ?_)
  · refine R_aload_n rfl rfl ?_
    refine R_getA rfl rfl (Or.inl rfl) ?_
    refine R_aload_n rfl rfl ?_
    refine R_getI rfl rfl (Or.inl rfl) ?_
    try refine R_top (y := nI _) (by assumption) ?_
    refine R_iload_n rfl rfl ?_
    refine R_iast rfl rfl rfl (show _ < 2000 from by omega) ?_
    refine R_aload_n rfl rfl ?_
    refine R_getA rfl rfl (Or.inl rfl) ?_
    refine R_aload_n rfl rfl ?_
    refine R_getI rfl rfl (Or.inl rfl) ?_
    try refine R_top (y := nI _) (by assumption) ?_
    refine R_iload_n rfl rfl ?_
    refine R_iast rfl rfl rfl (show _ < 2000 from by omega) ?_
    refine R_aload_n rfl rfl ?_
    refine R_getA rfl rfl (Or.inl rfl) ?_
    refine R_aload_n rfl rfl ?_
    refine R_getI rfl rfl (Or.inl rfl) ?_
    try refine R_top (y := nI _) (by assumption) ?_
    refine R_iload_n rfl rfl ?_
    refine R_iast rfl rfl rfl (show _ < 2000 from by omega) ?_
    refine R_aload_n rfl rfl ?_
    refine R_dup rfl ?_
    refine R_getI rfl rfl (Or.inl rfl) ?_
    try refine R_top (y := nI _) (by assumption) ?_
    refine R_iconst (y := nI 1) rfl (by decide) ?_
    first | refine R_iaddN rfl ?_ | refine R_iadd rfl ?_
    refine R_put rfl rfl rfl ?_
    refine R_aload_n rfl rfl ?_
    refine R_iconst (y := nI 0) rfl (by decide) ?_
    refine R_putZ rfl rfl rfl (by first | exact Or.inl rfl | exact Or.inr rfl | assumption) ?_
    refine R_aload_n rfl rfl ?_
    refine R_virt rfl rfl rfl rfl rfl rfl rfl (Nat.le_of_ble_eq_true rfl) (fun _ q => by cases q) (r_clear) ?_
    refine R_aload_n rfl rfl ?_
    refine R_getI rfl rfl (Or.inl rfl) ?_
    try refine R_top (y := nI _) (by assumption) ?_
    exact R_iret rfl rfl (by first | trivial | exact Or.inl rfl | exact Or.inr rfl | assumption) ⟨rfl, rfl⟩
  · exact absurd (fun q => absurd ((nI_eq (by omega) (by omega)).mp q) (by omega)) hc
theorem r_wipe {d : Nat} {M : Mem} : CalR (d + 2) j_X9_wipe [.ref 0] M (some (.int (M 5 0))) (clrM (up2 (up2 M 5 0 0) 7 0 0)) := by
  refine CalR_of (md := md_X9_wipe) (d := d + 1) rfl (Nat.le_of_ble_eq_true rfl) ?_
  show WR (CalR (d + 1)) t_X9_wipe 9 (some .int) _ 0 [(0, .ref 0)] [] _
  refine R_aload_n rfl rfl ?_
  refine R_getI rfl rfl (Or.inl rfl) ?_
  try refine R_top (y := nI _) (by assumption) ?_
  refine R_istore_n (lv' := [(1, _), (0, _)]) rfl rfl ?_
  refine R_aload_n rfl rfl ?_
  refine R_iconst (y := nI 0) rfl (by decide) ?_
  refine R_put rfl rfl rfl ?_
  refine R_aload_n rfl rfl ?_
  refine R_iconst (y := nI 0) rfl (by decide) ?_
  refine R_putZ rfl rfl rfl (by first | exact Or.inl rfl | exact Or.inr rfl | assumption) ?_
  refine R_aload_n rfl rfl ?_
  refine R_virt rfl rfl rfl rfl rfl rfl rfl (Nat.le_of_ble_eq_true rfl) (fun _ q => by cases q) (r_clear) ?_
  refine R_iload_n rfl rfl ?_
  exact R_iret rfl rfl (by first | trivial | exact Or.inl rfl | exact Or.inr rfl | assumption) ⟨rfl, rfl⟩
theorem r_fault {d : Nat} {M : Mem} : CalR (d + 1) j_X9_fault [.ref 0] M (some (.int (M 8 0))) M := by
  refine CalR_of (md := md_X9_fault) rfl (Nat.le_of_ble_eq_true rfl) ?_
  show WR (CalR d) t_X9_fault 9 (some .int) _ 0 [(0, .ref 0)] [] _
  refine R_aload_n rfl rfl ?_
  refine R_getI rfl rfl (Or.inl rfl) ?_
  try refine R_top (y := nI _) (by assumption) ?_
  exact R_iret rfl rfl (by first | trivial | exact Or.inl rfl | exact Or.inr rfl | assumption) ⟨rfl, rfl⟩
theorem r_outSize {d : Nat} {M : Mem} : CalR (d + 1) j_X9_outSize [.ref 0] M (some (.int (M 28 0))) M := by
  refine CalR_of (md := md_X9_outSize) rfl (Nat.le_of_ble_eq_true rfl) ?_
  show WR (CalR d) t_X9_outSize 9 (some .int) _ 0 [(0, .ref 0)] [] _
  refine R_aload_n rfl rfl ?_
  refine R_getI rfl rfl (Or.inl rfl) ?_
  try refine R_top (y := nI _) (by assumption) ?_
  exact R_iret rfl rfl (by first | trivial | exact Or.inl rfl | exact Or.inr rfl | assumption) ⟨rfl, rfl⟩
theorem dn_up {P : Nat → Prop} {N : Nat} (hend : P N) (hstep : ∀ s, s < N → P (s + 1) → P s) : ∀ s, s ≤ N → P s := by
  have h : ∀ (k s : Nat), s ≤ N → N - s ≤ k → P s := by
    intro k
    induction k with
    | zero =>
      intro s h1 h2
      obtain rfl : s = N := by omega
      exact hend
    | succ k ih =>
      intro s h1 h2
      by_cases h : s = N
      · rw [h]; exact hend
      · exact hstep s (by omega) (ih (s + 1) (by omega) (by omega))
  exact fun s hs => h N s hs (by omega)
theorem ge_no {s N : Nat} (h : s < N) (hN : N < 2 ^ 31) (hc : nI N ≤ nI s) : False := nI_ge h hN hc
theorem ge_yes {N : Nat} (hc : ¬ nI N ≤ nI N) : False := hc (Int32.le_refl _)
end
section
/-! ===== the reference: what can be come to ===== -/
def okv (k x : Int32) : Prop := k = 2 → ∃ i, i < 1500 ∧ x = nI i
/-- M1 is M but for the marks, and these are the list L -/
def mkl (M M1 : Mem) (L : List Nat) : Prop := (∀ k j, (k < 37 ∨ 39 < k) → M1 k j = M k j) ∧ L.Nodup ∧ (∀ i ∈ L, i < 1500) ∧ M1 39 0 = nI L.length ∧ (∀ a i, L[a]? = some i → M1 38 a = nI i) ∧ ∀ i, i < 1500 → M1 37 i = if i ∈ L then 1 else 0
theorem nodup_le : ∀ (N : Nat) (L : List Nat), L.Nodup → (∀ i ∈ L, i < N) → L.length ≤ N
  | 0, L, _, h => by
    cases L with
    | nil => simp
    | cons a l => exact absurd (h a List.mem_cons_self) (by omega)
  | N + 1, L, hd, h => by
    have h1 := nodup_le N (L.erase N) (hd.erase N) (fun i hi => by
      have hm := (List.Nodup.mem_erase_iff hd).mp hi
      have := h i hm.2
      have h3 : i ≠ N := hm.1
      omega)
    rw [List.length_erase] at h1
    split at h1 <;> omega
theorem r_markL {d : Nat} {M M1 : Mem} {L : List Nat} {k x : Int32} (h : mkl M M1 L) (hv : okv k x) : CQ (d + 1) j_X9_mark [.ref 0, .int k, .int x] M1 (fun v M2 => v = none ∧ ∃ L2, mkl M M2 L2 ∧ (∃ T, L2 = L ++ T) ∧ (∀ i ∈ L2, i ∈ L ∨ (k = 2 ∧ x = nI i ∧ i < 1500)) ∧ ∀ i, k = 2 → x = nI i → i < 1500 → i ∈ L2) := by
  by_cases hk : k = 2
  · subst hk
    obtain ⟨i, hi, rfl⟩ := hv rfl
    obtain ⟨h1, h2, h3, h4, h5, h6⟩ := id h
    by_cases hm : i ∈ L
    · refine ⟨none, M1, (fun a q => by cases q), r_mark1 hi (by rw [h6 i hi, if_pos hm]; decide), rfl, L, h, ⟨[], by simp⟩, fun j hj => Or.inl hj, fun j _ hj hj2 => ?_⟩
      have : i = j := (nI_eq (by omega) (by omega)).mp hj
      exact this ▸ hm
    · have hnd : (L ++ [i]).Nodup := by
        rw [List.nodup_append]
        refine ⟨h2, by simp, fun a ha b hb => ?_⟩
        rw [List.mem_singleton] at hb
        subst hb
        exact fun q => hm (q ▸ ha)
      have hall : ∀ j ∈ L ++ [i], j < 1500 := fun j hj => by
        rcases List.mem_append.mp hj with q | q
        · exact h3 j q
        · rw [List.mem_singleton] at q
          omega
      have hlen := nodup_le 1500 _ hnd hall
      rw [List.length_append, List.length_singleton] at hlen
      refine ⟨none, _, (fun a q => by cases q), r_mark2 hi (show L.length < 1500 by omega) (by rw [h6 i hi, if_neg hm]) h4, rfl, L ++ [i], ⟨fun k j hkj => ?_, hnd, hall, ?_, fun a b hab => ?_, fun j hj => ?_⟩, ⟨[i], rfl⟩, fun j hj => ?_, fun j _ hj hj2 => ?_⟩
      · rw [← h1 k j hkj]
        unfold up2
        rw [if_neg (by omega), if_neg (by omega), if_neg (by omega)]
      · show upd (M1 39) 0 (nI (L.length + 1)) 0 = nI (L ++ [i]).length
        simp [upd]
      · show upd (M1 38) L.length (nI i) a = nI b
        by_cases ha : a = L.length
        · subst ha
          have e : b = i := by simpa using hab.symm
          simp [upd, e]
        · have hlt : a < L.length := by
            have := (List.getElem?_eq_some_iff.mp hab).1
            rw [List.length_append, List.length_singleton] at this
            omega
          rw [List.getElem?_append_left hlt] at hab
          rw [← h5 a b hab]
          simp [upd, ha]
      · show upd (M1 37) i 1 j = _
        by_cases hji : j = i
        · subst hji
          simp [upd]
        · rw [show upd (M1 37) i 1 j = M1 37 j by simp [upd, hji], h6 j hj]
          simp [hji]
      · rcases List.mem_append.mp hj with q | q
        · exact Or.inl q
        · rw [List.mem_singleton] at q
          subst q
          exact Or.inr ⟨rfl, rfl, hi⟩
      · have : i = j := (nI_eq (by omega) (by omega)).mp hj
        subst this
        simp
  · exact ⟨none, M1, (fun a q => by cases q), r_mark0 hk, rfl, L, h, ⟨[], by simp⟩, fun j hj => Or.inl hj, fun j q => absurd q hk⟩
/-- sizes and kinds, as the walk of reach wants them -/
def wfR (M : Mem) (p f : Nat) (lm : Nat → Nat) : Prop := M 14 0 = nI p ∧ p ≤ 1000 ∧ M 22 0 = nI f ∧ f ≤ 200 ∧ (∀ g, g < f → M 19 g = nI (lm g) ∧ lm g ≤ 16) ∧ (∀ j, j < p → okv (M 12 j) (M 13 j)) ∧ (∀ g, g < f → okv (M 17 g) (M 18 g)) ∧ (∀ g k, g < f → k < lm g → okv (M 20 (16 * g + k)) (M 21 (16 * g + k))) ∧ (∀ k, k < 16 → okv (M 23 k) (M 24 k)) ∧ (∀ k, k < 4 → M 25 k = -1 ∨ ∃ i, i < 1500 ∧ M 25 k = nI i) ∧ (∀ i, i < 1500 → (∃ n, n ≤ 40 ∧ M 32 i = nI n) ∧ (M 31 i = -1 ∨ ∃ j, j < 1500 ∧ M 31 i = nI j) ∧ ∀ s, s < 40 → okv (M 35 (40 * i + s)) (M 36 (40 * i + s)))
/-- an object that a root holds -/
def rootR (M : Mem) (p f : Nat) (lm : Nat → Nat) (i : Nat) : Prop := (∃ j, j < p ∧ M 12 j = 2 ∧ M 13 j = nI i) ∨ (∃ g, g < f ∧ M 17 g = 2 ∧ M 18 g = nI i) ∨ (∃ g k, g < f ∧ k < lm g ∧ M 20 (16 * g + k) = 2 ∧ M 21 (16 * g + k) = nI i) ∨ (∃ k, k < 16 ∧ M 23 k = 2 ∧ M 24 k = nI i) ∨ ∃ k, k < 4 ∧ M 25 k = nI i
def edgeR (M : Mem) (i j : Nat) : Prop := M 31 i = nI j ∨ ∃ n s, M 32 i = nI n ∧ n ≤ 40 ∧ s < n ∧ M 35 (40 * i + s) = 2 ∧ M 36 (40 * i + s) = nI j
def rchN (M : Mem) (p f : Nat) (lm : Nat → Nat) (b : Prop) : Nat → Nat → Prop
  | 0, i => rootR M p f lm i ∨ (b ∧ 0 < M 29 i ∧ ¬ M 30 i = 0)
  | n + 1, i => rchN M p f lm b n i ∨ ∃ j, j < 1500 ∧ rchN M p f lm b n j ∧ edgeR M j i
/-- it can be come to from roots (and, if b, from old ones) -/
def rchR (M : Mem) (p f : Nat) (lm : Nat → Nat) (b : Prop) (i : Nat) : Prop := i < 1500 ∧ ∃ n, rchN M p f lm b n i
theorem rch_edge {M : Mem} {p f : Nat} {lm : Nat → Nat} {b : Prop} {i j : Nat} (h : rchR M p f lm b i) (e : edgeR M i j) (hj : j < 1500) : rchR M p f lm b j := by
  obtain ⟨hi, n, hn⟩ := h
  exact ⟨hj, n + 1, Or.inr ⟨i, hi, hn, e⟩⟩
theorem rch_least {M : Mem} {p f : Nat} {lm : Nat → Nat} {b : Prop} {A : Nat → Prop} (h0 : ∀ i, i < 1500 → (rootR M p f lm i ∨ (b ∧ 0 < M 29 i ∧ ¬ M 30 i = 0)) → A i) (h1 : ∀ i j, i < 1500 → j < 1500 → A i → edgeR M i j → A j) : ∀ i, rchR M p f lm b i → A i := by
  have h : ∀ n i, i < 1500 → rchN M p f lm b n i → A i := by
    intro n
    induction n with
    | zero => exact fun i hi q => h0 i hi q
    | succ n ih =>
      intro i hi q
      rcases q with q | ⟨j, hj, q1, q2⟩
      · exact ih i hi q
      · exact h1 j i hj hi (ih j hj q1) q2
  exact fun i ⟨hi, n, hn⟩ => h n i hi hn
end
section
/-! ===== the reference: reach ===== -/
theorem R_mk {d : Nat} {t : List (Nat × Instr × Nat)} {oc : Nat} {rt : Option FieldType} {Qr : Option Value → Mem → Prop} {pc : Nat} {lv : Lv} {r : List Value} {M M1 : Mem} {L : List Nat} {k x : Int32} {len i ix : Nat} {Rch D : Nat → Prop} (h : t.lookup pc = some (.invokevirtual i, len)) (hm : mres oc i = some (0, j_X9_mark, ix)) (hw : wgt r ≤ 8) (hmk : mkl M M1 L) (hsub : ∀ i ∈ L, Rch i) (hcov : ∀ i, i < 1500 → D i → i ∈ L) (hv : okv k x) (hnew : ∀ i, i < 1500 → k = 2 → x = nI i → Rch i)
    (kk : ∀ (L2 : List Nat) (M2 : Mem), mkl M M2 L2 → (∀ i ∈ L2, Rch i) → (∃ T, L2 = L ++ T) → (∀ i, i < 1500 → (D i ∨ (k = 2 ∧ x = nI i)) → i ∈ L2) → WR (CalR (d + 1)) t oc rt Qr (pc + 3) lv r M2) : WR (CalR (d + 1)) t oc rt Qr pc lv (.int x :: .int k :: .ref 0 :: r) M1 := by
  refine R_vq h hm rfl rfl rfl rfl rfl hw (r_markL hmk hv) ?_
  rintro v M2 ⟨rfl, L2, h1, ⟨T, hT⟩, h3, h4⟩
  refine kk L2 M2 h1 (fun i hi => ?_) ⟨T, hT⟩ (fun i hi hd => ?_)
  · rcases h3 i hi with q | ⟨q1, q2, q3⟩
    · exact hsub i q
    · exact hnew i q3 q1 q2
  · rcases hd with q | ⟨q1, q2⟩
    · rw [hT]
      exact List.mem_append_left _ (hcov i hi q)
    · exact h4 i q1 q2 hi
set_option maxHeartbeats 4000000 in
theorem r_reach {d : Nat} {M : Mem} {p f : Nat} {lm : Nat → Nat} {b : Int32} (hw : wfR M p f lm) (hb : b = 0 ∨ b = 1) : CQ (d + 2) j_X9_reach [.ref 0, .int b] M (fun v M2 => v = none ∧ ∃ L, mkl M M2 L ∧ ∀ i, i < 1500 → (i ∈ L ↔ rchR M p f lm (b = 1) i)) := by
  obtain ⟨w1, w2, w3, w4, w5, w6, w7, w8, w9, w10, w11⟩ := id hw
  refine CQ_of (md := md_X9_reach) (d := d + 1) rfl (Nat.le_of_ble_eq_true rfl) ?_
  show WR (CalR (d + 1)) t_X9_reach 9 none _ 0 [(0, .ref 0), (1, .int b)] [] _
  generalize hQ : (fun (v : Option Value) (M2 : Mem) => v = none ∧ ∃ L, mkl M M2 L ∧ ∀ i, i < 1500 → (i ∈ L ↔ rchR M p f lm (b = 1) i)) = Q
  -- the queue
  have s8 : ∀ (k a : Nat) (L : List Nat) (M1 : Mem), mkl M M1 L → a ≤ L.length → L.length ≤ 1500 → 1500 - a ≤ k → (∀ i ∈ L, rchR M p f lm (b = 1) i) → (∀ i, i < 1500 → (rootR M p f lm i ∨ (b = 1 ∧ 0 < M 29 i ∧ ¬ M 30 i = 0)) → i ∈ L) → (∀ c i, c < a → L[c]? = some i → ∀ j, j < 1500 → edgeR M i j → j ∈ L) → WR (CalR (d + 1)) t_X9_reach 9 none Q 251 [(2, .int (nI a)), (0, .ref 0), (1, .int b)] [] M1 := by
    intro k
    induction k with
    | zero =>
      intro a L M1 hmk ha hL hk hsub hcov hcl
      have hql : M1 39 0 = nI L.length := hmk.2.2.2.1
      obtain rfl : a = L.length := by omega
      refine R_iload_n rfl rfl ?_
      refine R_aload_n rfl rfl ?_
      refine R_getI rfl rfl (Or.inl rfl) ?_
      try refine R_top (y := nI _) (by assumption) ?_
      refine R_icmp (pc' := 344) rfl rfl (fun hc => ?_) (fun hc => ?_)
      · rw [← hQ]
        refine R_ret rfl rfl ⟨rfl, L, hmk, fun i hi => ⟨fun q => hsub i q, fun q => rch_least (A := fun i => i ∈ L) (fun i hi q => hcov i hi q) (fun i j hi hj q e => ?_) i q⟩⟩
        obtain ⟨c, hc⟩ := List.getElem?_of_mem q
        exact hcl c i (List.getElem?_eq_some_iff.mp hc).1 hc j hj e
      · exact (ge_yes hc).elim
    | succ k ih =>
      intro a L M1 hmk ha hL hk hsub hcov hcl
      have hql : M1 39 0 = nI L.length := hmk.2.2.2.1
      refine R_iload_n rfl rfl ?_
      refine R_aload_n rfl rfl ?_
      refine R_getI rfl rfl (Or.inl rfl) ?_
      try refine R_top (y := nI _) (by assumption) ?_
      refine R_icmp (pc' := 344) rfl rfl (fun hc => ?_) (fun hc => ?_)
      · have haL : a = L.length := by
          apply Classical.byContradiction
          intro hne
          exact ge_no (show a < L.length by omega) (by omega) hc
        subst haL
        rw [← hQ]
        refine R_ret rfl rfl ⟨rfl, L, hmk, fun i hi => ⟨fun q => hsub i q, fun q => rch_least (A := fun i => i ∈ L) (fun i hi q => hcov i hi q) (fun i j hi hj q e => ?_) i q⟩⟩
        obtain ⟨c, hc⟩ := List.getElem?_of_mem q
        exact hcl c i (List.getElem?_eq_some_iff.mp hc).1 hc j hj e
      · have hlt : a < L.length := Nat.lt_of_not_le (fun q => hc (nI_le q (by omega)))
        obtain ⟨i, hi⟩ : ∃ i, L[a]? = some i := ⟨L[a], List.getElem?_eq_getElem hlt⟩
        have hiL : i ∈ L := List.mem_of_getElem? hi
        have hi15 : i < 1500 := hmk.2.2.1 i hiL
        have hqu : M1 38 a = nI i := hmk.2.2.2.2.1 a i hi
        have hri := hsub i hiL
        obtain ⟨⟨nn, hnn, hmany⟩, hpar, hsl⟩ := w11 i hi15
        have hm1 : M1 32 i = nI nn := (hmk.1 32 i (by omega)).trans hmany
        refine R_aload_n rfl rfl ?_
        refine R_getA rfl rfl (Or.inl rfl) ?_
        refine R_iload_n rfl rfl ?_
        refine R_iald rfl rfl rfl (show _ < 1500 from by omega) ?_
        try refine R_top (y := nI _) (by assumption) ?_
        refine R_istore_n (lv' := [(3, _), (2, _), (0, _), (1, _)]) rfl rfl ?_
        -- behind the parent: the slots
        have inner : ∀ (L2 : List Nat) (M2 : Mem), mkl M M2 L2 → (∀ i ∈ L2, rchR M p f lm (b = 1) i) → (∃ T, L2 = L ++ T) → (∀ j, j < 1500 → M 31 i = nI j → j ∈ L2) → WR (CalR (d + 1)) t_X9_reach 9 none Q 290 [(3, .int (nI i)), (2, .int (nI a)), (0, .ref 0), (1, .int b)] [] M2 := by
          intro L2 M2 g1 g2 g3 g4
          refine R_iconst (y := nI 0) rfl (by decide) ?_
          refine R_istore (lv' := [(4, _), (3, _), (2, _), (0, _), (1, _)]) rfl rfl ?_
          refine dn_up (P := fun s => ∀ (L3 : List Nat) (M3 : Mem), mkl M M3 L3 → (∀ i ∈ L3, rchR M p f lm (b = 1) i) → (∃ T, L3 = L ++ T) → (∀ j, j < 1500 → (M 31 i = nI j ∨ ∃ s', s' < s ∧ M 35 (40 * i + s') = 2 ∧ M 36 (40 * i + s') = nI j) → j ∈ L3) → WR (CalR (d + 1)) t_X9_reach 9 none Q 293 [(4, .int (nI s)), (3, .int (nI i)), (2, .int (nI a)), (0, .ref 0), (1, .int b)] [] M3) (N := nn) ?_ ?_ 0 (Nat.zero_le _) L2 M2 g1 g2 g3 (fun j hj q => by
            rcases q with q | ⟨s', q, -⟩
            · exact g4 j hj q
            · omega)
          · intro L3 M3 f1 f2 f3 f4
            have hm3 : M3 32 i = nI nn := (f1.1 32 i (by omega)).trans hmany
            refine R_iload rfl rfl ?_
            refine R_aload_n rfl rfl ?_
            refine R_getA rfl rfl (Or.inl rfl) ?_
            refine R_iload_n rfl rfl ?_
            refine R_iald rfl rfl rfl (show _ < 1500 from by omega) ?_
            try refine R_top (y := nI _) (by assumption) ?_
            refine R_icmp (pc' := 338) rfl rfl (fun hc => ?_) (fun hc => ?_)
            · refine R_iinc (lv' := [(2, _), (4, _), (3, _), (0, _), (1, _)]) rfl rfl (by exact nI_1 _) rfl ?_
              refine R_goto (pc' := 251) rfl rfl ?_
              refine R_sub [0, 3, 4] rfl rfl rfl ?_
              obtain ⟨T, rfl⟩ := f3
              have hl3 := nodup_le 1500 _ f1.2.1 f1.2.2.1
              refine ih (a + 1) _ M3 f1 (by rw [List.length_append]; omega) hl3 (by omega) f2 (fun j hj q => List.mem_append_left _ (hcov j hj q)) (fun c i' hc' hi' j hj e => ?_)
              by_cases hca : c = a
              · subst hca
                rw [List.getElem?_append_left hlt, hi] at hi'
                cases hi'
                rcases e with e | ⟨n', s', e1, e2, e3, e4, e5⟩
                · exact f4 j hj (Or.inl e)
                · have : n' = nn := (nI_eq (by omega) (by omega)).mp (e1.symm.trans hmany)
                  exact f4 j hj (Or.inr ⟨s', by omega, e4, e5⟩)
              · rw [List.getElem?_append_left (by omega)] at hi'
                exact List.mem_append_left _ (hcl c i' (by omega) hi' j hj e)
            · exact (ge_yes hc).elim
          · intro s hs nx L3 M3 f1 f2 f3 f4
            have hm3 : M3 32 i = nI nn := (f1.1 32 i (by omega)).trans hmany
            refine R_iload rfl rfl ?_
            refine R_aload_n rfl rfl ?_
            refine R_getA rfl rfl (Or.inl rfl) ?_
            refine R_iload_n rfl rfl ?_
            refine R_iald rfl rfl rfl (show _ < 1500 from by omega) ?_
            try refine R_top (y := nI _) (by assumption) ?_
            refine R_icmp (pc' := 338) rfl rfl (fun hc => ?_) (fun hc => ?_)
            · exact (ge_no hs (by omega) hc).elim
            · refine R_aload_n rfl rfl ?_
              refine R_aload_n rfl rfl ?_
              refine R_getA rfl rfl (Or.inl rfl) ?_
              refine R_bipush (y := nI 40) rfl (by decide) ?_
              refine R_iload_n rfl rfl ?_
              first | refine R_imulN rfl ?_ | refine R_imul rfl ?_
              refine R_iload rfl rfl ?_
              first | refine R_iaddN rfl ?_ | refine R_iadd rfl ?_
              refine R_iald rfl rfl rfl (show _ < 60000 from by omega) ?_
              try refine R_top (y := nI _) (by assumption) ?_
              refine R_aload_n rfl rfl ?_
              refine R_getA rfl rfl (Or.inl rfl) ?_
              refine R_bipush (y := nI 40) rfl (by decide) ?_
              refine R_iload_n rfl rfl ?_
              first | refine R_imulN rfl ?_ | refine R_imul rfl ?_
              refine R_iload rfl rfl ?_
              first | refine R_iaddN rfl ?_ | refine R_iadd rfl ?_
              refine R_iald rfl rfl rfl (show _ < 60000 from by omega) ?_
              try refine R_top (y := nI _) (by assumption) ?_
              refine R_mk (D := fun j => M 31 i = nI j ∨ ∃ s', s' < s ∧ M 35 (40 * i + s') = 2 ∧ M 36 (40 * i + s') = nI j) rfl rfl (Nat.le_of_ble_eq_true rfl) f1 f2 f4 (by rw [f1.1 35 _ (by omega), f1.1 36 _ (by omega)]; exact hsl s (by omega)) (fun j hj q1 q2 => ?_) (fun L4 M4 e1 e2 e3 e4 => ?_)
              · rw [f1.1 35 _ (by omega)] at q1
                rw [f1.1 36 _ (by omega)] at q2
                exact rch_edge hri (Or.inr ⟨nn, s, hmany, hnn, hs, q1, q2⟩) hj
              · refine R_iinc (lv' := [(4, _), (3, _), (2, _), (0, _), (1, _)]) rfl rfl (by exact nI_1 _) rfl ?_
                refine R_goto (pc' := 293) rfl rfl ?_
                obtain ⟨T3, rfl⟩ := f3
                obtain ⟨T4, rfl⟩ := e3
                refine nx _ M4 e1 e2 ⟨T3 ++ T4, by rw [List.append_assoc]⟩ (fun j hj q => ?_)
                rcases q with q | ⟨s', q1, q2, q3⟩
                · exact e4 j hj (Or.inl (Or.inl q))
                · by_cases hss : s' = s
                  · subst hss
                    exact e4 j hj (Or.inr ⟨by rw [f1.1 35 _ (by omega)]; exact q2, by rw [f1.1 36 _ (by omega)]; exact q3⟩)
                  · exact e4 j hj (Or.inl (Or.inr ⟨s', by omega, q2, q3⟩))
        rcases hpar with hpar | ⟨j, hj, hpar⟩
        · have hp1 : -1 = M1 31 i := ((hmk.1 31 i (by omega)).trans hpar).symm
          refine R_aload_n rfl rfl ?_
          refine R_aload_n rfl rfl ?_
          refine R_getA rfl rfl (Or.inl rfl) ?_
          refine R_iload_n rfl rfl ?_
          refine R_iald rfl rfl rfl (show _ < 1500 from by omega) ?_
          try refine R_top (y := nI _) (by assumption) ?_
          refine R_top hp1.symm ?_
          refine R_if (pc' := 280) rfl rfl (fun hc => ?_) (fun hc => ?_)
          · exact absurd hc (show ¬ (0 : Int32) ≤ -1 by decide)
          · refine R_iconst (y := nI 0) rfl (by decide) ?_
            refine R_goto (pc' := 281) rfl rfl ?_
            refine R_aload_n rfl rfl ?_
            refine R_getA rfl rfl (Or.inl rfl) ?_
            refine R_iload_n rfl rfl ?_
            refine R_iald rfl rfl rfl (show _ < 1500 from by omega) ?_
            try refine R_top (y := nI _) (by assumption) ?_
            refine R_top hp1.symm ?_
            refine R_mk (D := fun _ => False) rfl rfl (Nat.le_of_ble_eq_true rfl) hmk hsub (fun _ _ q => q.elim) (fun q => absurd q (by decide)) (fun _ _ q => absurd q (by decide)) (fun L2 M2 g1 g2 g3 g4 => ?_)
            exact inner L2 M2 g1 g2 g3 (fun j hj q => absurd (hpar.symm.trans q) (fun e => absurd (congrArg Int32.toInt e) (by rw [nI_toInt (by omega)]; show ¬ (-1 : Int) = _; omega)))
        · have hp1 : M1 31 i = nI j := (hmk.1 31 i (by omega)).trans hpar
          refine R_aload_n rfl rfl ?_
          refine R_aload_n rfl rfl ?_
          refine R_getA rfl rfl (Or.inl rfl) ?_
          refine R_iload_n rfl rfl ?_
          refine R_iald rfl rfl rfl (show _ < 1500 from by omega) ?_
          try refine R_top (y := nI _) (by assumption) ?_
          refine R_if (pc' := 280) rfl rfl (fun hc => ?_) (fun hc => ?_)
          · refine R_iconst (y := nI 2) rfl (by decide) ?_
            refine R_aload_n rfl rfl ?_
            refine R_getA rfl rfl (Or.inl rfl) ?_
            refine R_iload_n rfl rfl ?_
            refine R_iald rfl rfl rfl (show _ < 1500 from by omega) ?_
            try refine R_top (y := nI _) (by assumption) ?_
            refine R_mk (D := fun _ => False) rfl rfl (Nat.le_of_ble_eq_true rfl) hmk hsub (fun _ _ q => q.elim) (fun _ => ⟨j, hj, rfl⟩) (fun j' hj' _ q => ?_) (fun L2 M2 g1 g2 g3 g4 => ?_)
            · have : j = j' := (nI_eq (by omega) (by omega)).mp q
              subst this
              exact rch_edge hri (Or.inl hpar) hj
            · exact inner L2 M2 g1 g2 g3 (fun j' hj' q => g4 j' hj' (Or.inr ⟨rfl, hpar.symm.trans q⟩))
          · exact absurd (nI_pos' (by omega)) hc
  -- old ones
  have s7 : ∀ (L : List Nat) (M1 : Mem), mkl M M1 L → (∀ i ∈ L, rchR M p f lm (b = 1) i) → (∀ i, i < 1500 → rootR M p f lm i → i ∈ L) → WR (CalR (d + 1)) t_X9_reach 9 none Q 202 [(2, .int (nI 4)), (0, .ref 0), (1, .int b)] [] M1 := by
    intro L0 M0 q1 q2 q3
    have fin : ∀ (s : Nat) (L : List Nat) (M1 : Mem), mkl M M1 L → (∀ i ∈ L, rchR M p f lm (b = 1) i) → (∀ i, i < 1500 → (rootR M p f lm i ∨ (b = 1 ∧ 0 < M 29 i ∧ ¬ M 30 i = 0)) → i ∈ L) → WR (CalR (d + 1)) t_X9_reach 9 none Q 249 [(2, .int (nI s)), (0, .ref 0), (1, .int b)] [] M1 := by
      intro s L M1 g1 g2 g3
      refine R_iconst (y := nI 0) rfl (by decide) ?_
      refine R_istore_n (lv' := [(2, _), (0, _), (1, _)]) rfl rfl ?_
      exact s8 1500 0 L M1 g1 (Nat.zero_le _) (nodup_le 1500 _ g1.2.1 g1.2.2.1) (by omega) g2 g3 (fun c i hc => absurd hc (by omega))
    refine R_iconst (y := nI 0) rfl (by decide) ?_
    refine R_istore_n (lv' := [(2, _), (0, _), (1, _)]) rfl rfl ?_
    refine dn_up (P := fun s => ∀ (L : List Nat) (M1 : Mem), mkl M M1 L → (∀ i ∈ L, rchR M p f lm (b = 1) i) → (∀ i, i < 1500 → (rootR M p f lm i ∨ (i < s ∧ b = 1 ∧ 0 < M 29 i ∧ ¬ M 30 i = 0)) → i ∈ L) → WR (CalR (d + 1)) t_X9_reach 9 none Q 204 [(2, .int (nI s)), (0, .ref 0), (1, .int b)] [] M1) (N := 1500) ?_ ?_ 0 (Nat.zero_le _) L0 M0 q1 q2 (fun i hi q => by
      rcases q with q | ⟨q, -⟩
      · exact q3 i hi q
      · omega)
    · intro L M1 g1 g2 g3
      refine R_iload_n rfl rfl ?_
      refine R_sipush (y := nI 1500) rfl (by decide) ?_
      refine R_icmp (pc' := 249) rfl rfl (fun hc => ?_) (fun hc => ?_)
      · exact fin 1500 L M1 g1 g2 (fun i hi q => g3 i hi (by
          rcases q with q | q
          · exact Or.inl q
          · exact Or.inr ⟨hi, q⟩))
      · exact (ge_yes hc).elim
    · intro s hs nx L M1 g1 g2 g3
      refine R_iload_n rfl rfl ?_
      refine R_sipush (y := nI 1500) rfl (by decide) ?_
      refine R_icmp (pc' := 249) rfl rfl (fun hc => ?_) (fun hc => ?_)
      · exact (ge_no hs (by omega) hc).elim
      · refine R_iload_n rfl rfl ?_
        refine R_if (pc' := 249) rfl rfl (fun hc => ?_) (fun hc => ?_)
        · have hb0 : b = 0 := hc
          exact fin s L M1 g1 g2 (fun i hi q => g3 i hi (by
            rcases q with q | ⟨q, -⟩
            · exact Or.inl q
            · rw [hb0] at q
              exact absurd q (by decide)))
        · have hb1 : b = 1 := by
            rcases hb with q | q
            · exact absurd q hc
            · exact q
          have go0 : (¬ (0 < M 29 s ∧ ¬ M 30 s = 0)) → WR (CalR (d + 1)) t_X9_reach 9 none Q 238 [(2, .int (nI s)), (0, .ref 0), (1, .int b)] [.ref 0] M1 := by
            intro hno
            refine R_iconst (y := nI 0) rfl (by decide) ?_
            refine R_iload_n rfl rfl ?_
            refine R_mk (D := fun i => rootR M p f lm i ∨ (i < s ∧ b = 1 ∧ 0 < M 29 i ∧ ¬ M 30 i = 0)) rfl rfl (Nat.le_of_ble_eq_true rfl) g1 g2 g3 (fun q => absurd q (by decide)) (fun _ _ q => absurd q (by decide)) (fun L2 M2 e1 e2 e3 e4 => ?_)
            refine R_iinc (lv' := [(2, _), (0, _), (1, _)]) rfl rfl (by exact nI_1 _) rfl ?_
            refine R_goto (pc' := 204) rfl rfl ?_
            refine nx L2 M2 e1 e2 (fun i hi q => ?_)
            rcases q with q | ⟨q1, q2⟩
            · exact e4 i hi (Or.inl (Or.inl q))
            · by_cases his : i = s
              · subst his
                exact absurd q2.2 hno
              · exact e4 i hi (Or.inl (Or.inr ⟨by omega, q2⟩))
          refine R_aload_n rfl rfl ?_
          refine R_aload_n rfl rfl ?_
          refine R_getA rfl rfl (Or.inl rfl) ?_
          refine R_iload_n rfl rfl ?_
          refine R_iald rfl rfl rfl (show _ < 1500 from by omega) ?_
          try refine R_top (y := nI _) (by assumption) ?_
          refine R_top (g1.1 29 s (by omega)) ?_
          refine R_if (pc' := 238) rfl rfl (fun hc => ?_) (fun hc => ?_)
          · exact go0 (fun q => Int32.not_le.mpr q.1 hc)
          · have hlive : 0 < M 29 s := Int32.not_le.mp hc
            refine R_aload_n rfl rfl ?_
            refine R_getA rfl rfl (Or.inr rfl) ?_
            refine R_iload_n rfl rfl ?_
            refine R_bald rfl rfl rfl (show _ < 1500 from by omega) ?_
            try refine R_top (y := nI _) (by assumption) ?_
            refine R_top (g1.1 30 s (by omega)) ?_
            refine R_if (pc' := 238) rfl rfl (fun hc => ?_) (fun hc => ?_)
            · exact go0 (fun q => q.2 hc)
            · have hold : ¬ M 30 s = 0 := hc
              refine R_iconst (y := nI 2) rfl (by decide) ?_
              refine R_goto (pc' := 239) rfl rfl ?_
              refine R_iload_n rfl rfl ?_
              refine R_mk (D := fun i => rootR M p f lm i ∨ (i < s ∧ b = 1 ∧ 0 < M 29 i ∧ ¬ M 30 i = 0)) rfl rfl (Nat.le_of_ble_eq_true rfl) g1 g2 g3 (fun _ => ⟨s, hs, rfl⟩) (fun j hj _ q => ?_) (fun L2 M2 e1 e2 e3 e4 => ?_)
              · have : s = j := (nI_eq (by omega) (by omega)).mp q
                subst this
                exact ⟨hj, 0, Or.inr ⟨hb1, hlive, hold⟩⟩
              · refine R_iinc (lv' := [(2, _), (0, _), (1, _)]) rfl rfl (by exact nI_1 _) rfl ?_
                refine R_goto (pc' := 204) rfl rfl ?_
                refine nx L2 M2 e1 e2 (fun i hi q => ?_)
                rcases q with q | ⟨q1, q2⟩
                · exact e4 i hi (Or.inl (Or.inl q))
                · by_cases his : i = s
                  · subst his
                    exact e4 i hi (Or.inr ⟨rfl, rfl⟩)
                  · exact e4 i hi (Or.inl (Or.inr ⟨by omega, q2⟩))
  -- protos
  have s6 : ∀ (L : List Nat) (M1 : Mem), mkl M M1 L → (∀ i ∈ L, rchR M p f lm (b = 1) i) → (∀ i, i < 1500 → ((∃ j, j < p ∧ M 12 j = 2 ∧ M 13 j = nI i) ∨ (∃ g, g < f ∧ M 17 g = 2 ∧ M 18 g = nI i) ∨ (∃ g k, g < f ∧ k < lm g ∧ M 20 (16 * g + k) = 2 ∧ M 21 (16 * g + k) = nI i) ∨ (∃ k, k < 16 ∧ M 23 k = 2 ∧ M 24 k = nI i)) → i ∈ L) → WR (CalR (d + 1)) t_X9_reach 9 none Q 165 [(2, .int (nI 16)), (0, .ref 0), (1, .int b)] [] M1 := by
    intro L0 M0 q1 q2 q3
    refine R_iconst (y := nI 0) rfl (by decide) ?_
    refine R_istore_n (lv' := [(2, _), (0, _), (1, _)]) rfl rfl ?_
    refine dn_up (P := fun s => ∀ (L : List Nat) (M1 : Mem), mkl M M1 L → (∀ i ∈ L, rchR M p f lm (b = 1) i) → (∀ i, i < 1500 → (((∃ j, j < p ∧ M 12 j = 2 ∧ M 13 j = nI i) ∨ (∃ g, g < f ∧ M 17 g = 2 ∧ M 18 g = nI i) ∨ (∃ g k, g < f ∧ k < lm g ∧ M 20 (16 * g + k) = 2 ∧ M 21 (16 * g + k) = nI i) ∨ (∃ k, k < 16 ∧ M 23 k = 2 ∧ M 24 k = nI i)) ∨ ∃ k, k < s ∧ M 25 k = nI i) → i ∈ L) → WR (CalR (d + 1)) t_X9_reach 9 none Q 167 [(2, .int (nI s)), (0, .ref 0), (1, .int b)] [] M1) (N := 4) ?_ ?_ 0 (Nat.zero_le _) L0 M0 q1 q2 (fun i hi q => by
      rcases q with q | ⟨k, q, -⟩
      · exact q3 i hi q
      · omega)
    · intro L M1 g1 g2 g3
      refine R_iload_n rfl rfl ?_
      refine R_iconst (y := nI 4) rfl (by decide) ?_
      refine R_icmp (pc' := 202) rfl rfl (fun hc => ?_) (fun hc => ?_)
      · exact s7 L M1 g1 g2 (fun i hi q => g3 i hi (by
          rcases q with q | q | q | q | q
          · exact Or.inl (Or.inl q)
          · exact Or.inl (Or.inr (Or.inl q))
          · exact Or.inl (Or.inr (Or.inr (Or.inl q)))
          · exact Or.inl (Or.inr (Or.inr (Or.inr q)))
          · exact Or.inr q))
      · exact (ge_yes hc).elim
    · intro s hs nx L M1 g1 g2 g3
      refine R_iload_n rfl rfl ?_
      refine R_iconst (y := nI 4) rfl (by decide) ?_
      refine R_icmp (pc' := 202) rfl rfl (fun hc => ?_) (fun hc => ?_)
      · exact (ge_no hs (by omega) hc).elim
      · rcases w10 s hs with hpr | ⟨j, hj, hpr⟩
        · have hp1 : -1 = M1 25 s := ((g1.1 25 s (by omega)).trans hpr).symm
          refine R_aload_n rfl rfl ?_
          refine R_aload_n rfl rfl ?_
          refine R_getA rfl rfl (Or.inl rfl) ?_
          refine R_iload_n rfl rfl ?_
          refine R_iald rfl rfl rfl (show _ < 4 from by omega) ?_
          try refine R_top (y := nI _) (by assumption) ?_
          refine R_top hp1.symm ?_
          refine R_if (pc' := 186) rfl rfl (fun hc => ?_) (fun hc => ?_)
          · exact absurd hc (show ¬ (0 : Int32) ≤ -1 by decide)
          · refine R_iconst (y := nI 0) rfl (by decide) ?_
            refine R_goto (pc' := 187) rfl rfl ?_
            refine R_aload_n rfl rfl ?_
            refine R_getA rfl rfl (Or.inl rfl) ?_
            refine R_iload_n rfl rfl ?_
            refine R_iald rfl rfl rfl (show _ < 4 from by omega) ?_
            try refine R_top (y := nI _) (by assumption) ?_
            refine R_top hp1.symm ?_
            refine R_mk rfl rfl (Nat.le_of_ble_eq_true rfl) g1 g2 g3 (fun q => absurd q (by decide)) (fun _ _ q => absurd q (by decide)) (fun L2 M2 e1 e2 e3 e4 => ?_)
            refine R_iinc (lv' := [(2, _), (0, _), (1, _)]) rfl rfl (by exact nI_1 _) rfl ?_
            refine R_goto (pc' := 167) rfl rfl ?_
            refine nx L2 M2 e1 e2 (fun i hi q => e4 i hi (Or.inl ?_))
            rcases q with q | ⟨k, q, q5⟩
            · exact Or.inl q
            · by_cases hks : k = s
              · subst hks
                exact absurd (hpr.symm.trans q5) (fun e => absurd (congrArg Int32.toInt e) (by rw [nI_toInt (by omega)]; show ¬ (-1 : Int) = _; omega))
              · exact Or.inr ⟨k, by omega, q5⟩
        · have hp1 : M1 25 s = nI j := (g1.1 25 s (by omega)).trans hpr
          refine R_aload_n rfl rfl ?_
          refine R_aload_n rfl rfl ?_
          refine R_getA rfl rfl (Or.inl rfl) ?_
          refine R_iload_n rfl rfl ?_
          refine R_iald rfl rfl rfl (show _ < 4 from by omega) ?_
          try refine R_top (y := nI _) (by assumption) ?_
          refine R_if (pc' := 186) rfl rfl (fun hc => ?_) (fun hc => ?_)
          · refine R_iconst (y := nI 2) rfl (by decide) ?_
            refine R_aload_n rfl rfl ?_
            refine R_getA rfl rfl (Or.inl rfl) ?_
            refine R_iload_n rfl rfl ?_
            refine R_iald rfl rfl rfl (show _ < 4 from by omega) ?_
            try refine R_top (y := nI _) (by assumption) ?_
            refine R_mk rfl rfl (Nat.le_of_ble_eq_true rfl) g1 g2 g3 (fun _ => ⟨j, hj, rfl⟩) (fun j' hj' _ q => ?_) (fun L2 M2 e1 e2 e3 e4 => ?_)
            · have : j = j' := (nI_eq (by omega) (by omega)).mp q
              subst this
              exact ⟨hj, 0, Or.inl (Or.inr (Or.inr (Or.inr (Or.inr ⟨s, hs, hpr⟩))))⟩
            · refine R_iinc (lv' := [(2, _), (0, _), (1, _)]) rfl rfl (by exact nI_1 _) rfl ?_
              refine R_goto (pc' := 167) rfl rfl ?_
              refine nx L2 M2 e1 e2 (fun i hi q => e4 i hi ?_)
              rcases q with q | ⟨k, q, q5⟩
              · exact Or.inl (Or.inl q)
              · by_cases hks : k = s
                · subst hks
                  exact Or.inr ⟨rfl, hpr.symm.trans q5⟩
                · exact Or.inl (Or.inr ⟨k, by omega, q5⟩)
          · exact absurd (nI_pos' (by omega)) hc
  -- globals
  have s5 : ∀ (L : List Nat) (M1 : Mem), mkl M M1 L → (∀ i ∈ L, rchR M p f lm (b = 1) i) → (∀ i, i < 1500 → ((∃ j, j < p ∧ M 12 j = 2 ∧ M 13 j = nI i) ∨ (∃ g, g < f ∧ M 17 g = 2 ∧ M 18 g = nI i) ∨ (∃ g k, g < f ∧ k < lm g ∧ M 20 (16 * g + k) = 2 ∧ M 21 (16 * g + k) = nI i)) → i ∈ L) → WR (CalR (d + 1)) t_X9_reach 9 none Q 135 [(2, .int (nI f)), (0, .ref 0), (1, .int b)] [] M1 := by
    intro L0 M0 q1 q2 q3
    refine R_iconst (y := nI 0) rfl (by decide) ?_
    refine R_istore_n (lv' := [(2, _), (0, _), (1, _)]) rfl rfl ?_
    refine dn_up (P := fun s => ∀ (L : List Nat) (M1 : Mem), mkl M M1 L → (∀ i ∈ L, rchR M p f lm (b = 1) i) → (∀ i, i < 1500 → (((∃ j, j < p ∧ M 12 j = 2 ∧ M 13 j = nI i) ∨ (∃ g, g < f ∧ M 17 g = 2 ∧ M 18 g = nI i) ∨ (∃ g k, g < f ∧ k < lm g ∧ M 20 (16 * g + k) = 2 ∧ M 21 (16 * g + k) = nI i)) ∨ ∃ k, k < s ∧ M 23 k = 2 ∧ M 24 k = nI i) → i ∈ L) → WR (CalR (d + 1)) t_X9_reach 9 none Q 137 [(2, .int (nI s)), (0, .ref 0), (1, .int b)] [] M1) (N := 16) ?_ ?_ 0 (Nat.zero_le _) L0 M0 q1 q2 (fun i hi q => by
      rcases q with q | ⟨k, q, -⟩
      · exact q3 i hi q
      · omega)
    · intro L M1 g1 g2 g3
      refine R_iload_n rfl rfl ?_
      refine R_bipush (y := nI 16) rfl (by decide) ?_
      refine R_icmp (pc' := 165) rfl rfl (fun hc => ?_) (fun hc => ?_)
      · exact s6 L M1 g1 g2 (fun i hi q => g3 i hi (by
          rcases q with q | q | q | q
          · exact Or.inl (Or.inl q)
          · exact Or.inl (Or.inr (Or.inl q))
          · exact Or.inl (Or.inr (Or.inr q))
          · exact Or.inr q))
      · exact (ge_yes hc).elim
    · intro s hs nx L M1 g1 g2 g3
      refine R_iload_n rfl rfl ?_
      refine R_bipush (y := nI 16) rfl (by decide) ?_
      refine R_icmp (pc' := 165) rfl rfl (fun hc => ?_) (fun hc => ?_)
      · exact (ge_no hs (by omega) hc).elim
      · refine R_aload_n rfl rfl ?_
        refine R_aload_n rfl rfl ?_
        refine R_getA rfl rfl (Or.inl rfl) ?_
        refine R_iload_n rfl rfl ?_
        refine R_iald rfl rfl rfl (show _ < 16 from by omega) ?_
        try refine R_top (y := nI _) (by assumption) ?_
        refine R_aload_n rfl rfl ?_
        refine R_getA rfl rfl (Or.inl rfl) ?_
        refine R_iload_n rfl rfl ?_
        refine R_iald rfl rfl rfl (show _ < 16 from by omega) ?_
        try refine R_top (y := nI _) (by assumption) ?_
        refine R_mk rfl rfl (Nat.le_of_ble_eq_true rfl) g1 g2 g3 (by rw [g1.1 23 _ (by omega), g1.1 24 _ (by omega)]; exact w9 s hs) (fun j hj q1 q2 => ?_) (fun L2 M2 e1 e2 e3 e4 => ?_)
        · rw [g1.1 23 _ (by omega)] at q1
          rw [g1.1 24 _ (by omega)] at q2
          exact ⟨hj, 0, Or.inl (Or.inr (Or.inr (Or.inr (Or.inl ⟨s, hs, q1, q2⟩))))⟩
        · rw [g1.1 23 _ (by omega), g1.1 24 _ (by omega)] at e4
          refine R_iinc (lv' := [(2, _), (0, _), (1, _)]) rfl rfl (by exact nI_1 _) rfl ?_
          refine R_goto (pc' := 137) rfl rfl ?_
          refine nx L2 M2 e1 e2 (fun i hi q => e4 i hi ?_)
          rcases q with q | ⟨k, q, q5⟩
          · exact Or.inl (Or.inl q)
          · by_cases hks : k = s
            · subst hks
              exact Or.inr q5
            · exact Or.inl (Or.inr ⟨k, by omega, q5⟩)
  -- frames
  have s4 : ∀ (L : List Nat) (M1 : Mem), mkl M M1 L → (∀ i ∈ L, rchR M p f lm (b = 1) i) → (∀ i, i < 1500 → (∃ j, j < p ∧ M 12 j = 2 ∧ M 13 j = nI i) → i ∈ L) → WR (CalR (d + 1)) t_X9_reach 9 none Q 59 [(2, .int (nI p)), (0, .ref 0), (1, .int b)] [] M1 := by
    intro L0 M0 q1 q2 q3
    refine R_iconst (y := nI 0) rfl (by decide) ?_
    refine R_istore_n (lv' := [(2, _), (0, _), (1, _)]) rfl rfl ?_
    refine dn_up (P := fun s => ∀ (L : List Nat) (M1 : Mem), mkl M M1 L → (∀ i ∈ L, rchR M p f lm (b = 1) i) → (∀ i, i < 1500 → ((∃ j, j < p ∧ M 12 j = 2 ∧ M 13 j = nI i) ∨ (∃ g, g < s ∧ M 17 g = 2 ∧ M 18 g = nI i) ∨ (∃ g k, g < s ∧ k < lm g ∧ M 20 (16 * g + k) = 2 ∧ M 21 (16 * g + k) = nI i)) → i ∈ L) → WR (CalR (d + 1)) t_X9_reach 9 none Q 61 [(2, .int (nI s)), (0, .ref 0), (1, .int b)] [] M1) (N := f) ?_ ?_ 0 (Nat.zero_le _) L0 M0 q1 q2 (fun i hi q => by
      rcases q with q | ⟨k, q, -⟩ | ⟨g, k, q, -⟩
      · exact q3 i hi q
      · omega
      · omega)
    · intro L M1 g1 g2 g3
      have hf1 : M1 22 0 = nI f := (g1.1 22 0 (by omega)).trans w3
      refine R_iload_n rfl rfl ?_
      refine R_aload_n rfl rfl ?_
      refine R_getI rfl rfl (Or.inl rfl) ?_
      try refine R_top (y := nI _) (by assumption) ?_
      refine R_icmp (pc' := 135) rfl rfl (fun hc => ?_) (fun hc => ?_)
      · exact s5 L M1 g1 g2 g3
      · exact (ge_yes hc).elim
    · intro g hg nx L M1 g1 g2 g3
      obtain ⟨hlm, hlm16⟩ := w5 g hg
      have hf1 : M1 22 0 = nI f := (g1.1 22 0 (by omega)).trans w3
      refine R_iload_n rfl rfl ?_
      refine R_aload_n rfl rfl ?_
      refine R_getI rfl rfl (Or.inl rfl) ?_
      try refine R_top (y := nI _) (by assumption) ?_
      refine R_icmp (pc' := 135) rfl rfl (fun hc => ?_) (fun hc => ?_)
      · exact (ge_no hg (by omega) hc).elim
      · refine R_aload_n rfl rfl ?_
        refine R_aload_n rfl rfl ?_
        refine R_getA rfl rfl (Or.inl rfl) ?_
        refine R_iload_n rfl rfl ?_
        refine R_iald rfl rfl rfl (show _ < 200 from by omega) ?_
        try refine R_top (y := nI _) (by assumption) ?_
        refine R_aload_n rfl rfl ?_
        refine R_getA rfl rfl (Or.inl rfl) ?_
        refine R_iload_n rfl rfl ?_
        refine R_iald rfl rfl rfl (show _ < 200 from by omega) ?_
        try refine R_top (y := nI _) (by assumption) ?_
        refine R_mk rfl rfl (Nat.le_of_ble_eq_true rfl) g1 g2 g3 (by rw [g1.1 17 _ (by omega), g1.1 18 _ (by omega)]; exact w7 g hg) (fun j hj q1 q2 => ?_) (fun L2 M2 e1 e2 e3 e4 => ?_)
        · rw [g1.1 17 _ (by omega)] at q1
          rw [g1.1 18 _ (by omega)] at q2
          exact ⟨hj, 0, Or.inl (Or.inr (Or.inl ⟨g, hg, q1, q2⟩))⟩
        · rw [g1.1 17 _ (by omega), g1.1 18 _ (by omega)] at e4
          refine R_iconst (y := nI 0) rfl (by decide) ?_
          refine R_istore_n (lv' := [(3, _), (2, _), (0, _), (1, _)]) rfl rfl ?_
          refine dn_up (P := fun s => ∀ (L3 : List Nat) (M3 : Mem), mkl M M3 L3 → (∀ i ∈ L3, rchR M p f lm (b = 1) i) → (∀ i, i < 1500 → ((((∃ j, j < p ∧ M 12 j = 2 ∧ M 13 j = nI i) ∨ (∃ g', g' < g ∧ M 17 g' = 2 ∧ M 18 g' = nI i) ∨ (∃ g' k, g' < g ∧ k < lm g' ∧ M 20 (16 * g' + k) = 2 ∧ M 21 (16 * g' + k) = nI i)) ∨ (M 17 g = 2 ∧ M 18 g = nI i)) ∨ ∃ k, k < s ∧ M 20 (16 * g + k) = 2 ∧ M 21 (16 * g + k) = nI i) → i ∈ L3) → WR (CalR (d + 1)) t_X9_reach 9 none Q 87 [(3, .int (nI s)), (2, .int (nI g)), (0, .ref 0), (1, .int b)] [] M3) (N := lm g) ?_ ?_ 0 (Nat.zero_le _) L2 M2 e1 e2 (fun i hi q => by
            rcases q with q | ⟨k, q, -⟩
            · exact e4 i hi q
            · omega)
          · intro L3 M3 h1 h2 h3
            have hl3 : M3 19 g = nI (lm g) := (h1.1 19 g (by omega)).trans hlm
            refine R_iload_n rfl rfl ?_
            refine R_aload_n rfl rfl ?_
            refine R_getA rfl rfl (Or.inl rfl) ?_
            refine R_iload_n rfl rfl ?_
            refine R_iald rfl rfl rfl (show _ < 200 from by omega) ?_
            try refine R_top (y := nI _) (by assumption) ?_
            refine R_icmp (pc' := 129) rfl rfl (fun hc => ?_) (fun hc => ?_)
            · refine R_iinc (lv' := [(2, _), (3, _), (0, _), (1, _)]) rfl rfl (by exact nI_1 _) rfl ?_
              refine R_goto (pc' := 61) rfl rfl ?_
              refine R_sub [0, 2, 3] rfl rfl rfl ?_
              refine nx L3 M3 h1 h2 (fun i hi q => h3 i hi ?_)
              rcases q with q | ⟨g', q, q5⟩ | ⟨g', k, q, q5⟩
              · exact Or.inl (Or.inl (Or.inl q))
              · by_cases hgg : g' = g
                · subst hgg
                  exact Or.inl (Or.inr q5)
                · exact Or.inl (Or.inl (Or.inr (Or.inl ⟨g', by omega, q5⟩)))
              · by_cases hgg : g' = g
                · subst hgg
                  exact Or.inr ⟨k, q5⟩
                · exact Or.inl (Or.inl (Or.inr (Or.inr ⟨g', k, by omega, q5⟩)))
            · exact (ge_yes hc).elim
          · intro s hs nx3 L3 M3 h1 h2 h3
            have hl3 : M3 19 g = nI (lm g) := (h1.1 19 g (by omega)).trans hlm
            refine R_iload_n rfl rfl ?_
            refine R_aload_n rfl rfl ?_
            refine R_getA rfl rfl (Or.inl rfl) ?_
            refine R_iload_n rfl rfl ?_
            refine R_iald rfl rfl rfl (show _ < 200 from by omega) ?_
            try refine R_top (y := nI _) (by assumption) ?_
            refine R_icmp (pc' := 129) rfl rfl (fun hc => ?_) (fun hc => ?_)
            · exact (ge_no hs (by omega) hc).elim
            · refine R_aload_n rfl rfl ?_
              refine R_aload_n rfl rfl ?_
              refine R_getA rfl rfl (Or.inl rfl) ?_
              refine R_bipush (y := nI 16) rfl (by decide) ?_
              refine R_iload_n rfl rfl ?_
              first | refine R_imulN rfl ?_ | refine R_imul rfl ?_
              refine R_iload_n rfl rfl ?_
              first | refine R_iaddN rfl ?_ | refine R_iadd rfl ?_
              refine R_iald rfl rfl rfl (show _ < 3200 from by omega) ?_
              try refine R_top (y := nI _) (by assumption) ?_
              refine R_aload_n rfl rfl ?_
              refine R_getA rfl rfl (Or.inl rfl) ?_
              refine R_bipush (y := nI 16) rfl (by decide) ?_
              refine R_iload_n rfl rfl ?_
              first | refine R_imulN rfl ?_ | refine R_imul rfl ?_
              refine R_iload_n rfl rfl ?_
              first | refine R_iaddN rfl ?_ | refine R_iadd rfl ?_
              refine R_iald rfl rfl rfl (show _ < 3200 from by omega) ?_
              try refine R_top (y := nI _) (by assumption) ?_
              refine R_mk rfl rfl (Nat.le_of_ble_eq_true rfl) h1 h2 h3 (by rw [h1.1 20 _ (by omega), h1.1 21 _ (by omega)]; exact w8 g s hg hs) (fun j hj q1 q2 => ?_) (fun L4 M4 f1 f2 f3 f4 => ?_)
              · rw [h1.1 20 _ (by omega)] at q1
                rw [h1.1 21 _ (by omega)] at q2
                exact ⟨hj, 0, Or.inl (Or.inr (Or.inr (Or.inl ⟨g, s, hg, hs, q1, q2⟩)))⟩
              · rw [h1.1 20 _ (by omega), h1.1 21 _ (by omega)] at f4
                refine R_iinc (lv' := [(3, _), (2, _), (0, _), (1, _)]) rfl rfl (by exact nI_1 _) rfl ?_
                refine R_goto (pc' := 87) rfl rfl ?_
                refine nx3 L4 M4 f1 f2 (fun i hi q => f4 i hi ?_)
                rcases q with q | ⟨k, q, q5⟩
                · exact Or.inl (Or.inl q)
                · by_cases hks : k = s
                  · subst hks
                    exact Or.inr q5
                  · exact Or.inl (Or.inr ⟨k, by omega, q5⟩)
  -- the pile
  have s3 : ∀ (M1 : Mem), mkl M M1 [] → WR (CalR (d + 1)) t_X9_reach 9 none Q 27 [(2, .int (nI 1500)), (0, .ref 0), (1, .int b)] [] M1 := by
    intro M0 q1
    refine R_iconst (y := nI 0) rfl (by decide) ?_
    refine R_istore_n (lv' := [(2, _), (0, _), (1, _)]) rfl rfl ?_
    refine dn_up (P := fun s => ∀ (L : List Nat) (M1 : Mem), mkl M M1 L → (∀ i ∈ L, rchR M p f lm (b = 1) i) → (∀ i, i < 1500 → (∃ j, j < s ∧ M 12 j = 2 ∧ M 13 j = nI i) → i ∈ L) → WR (CalR (d + 1)) t_X9_reach 9 none Q 29 [(2, .int (nI s)), (0, .ref 0), (1, .int b)] [] M1) (N := p) ?_ ?_ 0 (Nat.zero_le _) [] M0 q1 (fun i hi => by cases hi) (fun i hi q => by
      obtain ⟨k, q, -⟩ := q
      omega)
    · intro L M1 g1 g2 g3
      have hp1 : M1 14 0 = nI p := (g1.1 14 0 (by omega)).trans w1
      refine R_iload_n rfl rfl ?_
      refine R_aload_n rfl rfl ?_
      refine R_getI rfl rfl (Or.inl rfl) ?_
      try refine R_top (y := nI _) (by assumption) ?_
      refine R_icmp (pc' := 59) rfl rfl (fun hc => ?_) (fun hc => ?_)
      · exact s4 L M1 g1 g2 g3
      · exact (ge_yes hc).elim
    · intro s hs nx L M1 g1 g2 g3
      have hp1 : M1 14 0 = nI p := (g1.1 14 0 (by omega)).trans w1
      refine R_iload_n rfl rfl ?_
      refine R_aload_n rfl rfl ?_
      refine R_getI rfl rfl (Or.inl rfl) ?_
      try refine R_top (y := nI _) (by assumption) ?_
      refine R_icmp (pc' := 59) rfl rfl (fun hc => ?_) (fun hc => ?_)
      · exact (ge_no hs (by omega) hc).elim
      · refine R_aload_n rfl rfl ?_
        refine R_aload_n rfl rfl ?_
        refine R_getA rfl rfl (Or.inl rfl) ?_
        refine R_iload_n rfl rfl ?_
        refine R_iald rfl rfl rfl (show _ < 1000 from by omega) ?_
        try refine R_top (y := nI _) (by assumption) ?_
        refine R_aload_n rfl rfl ?_
        refine R_getA rfl rfl (Or.inl rfl) ?_
        refine R_iload_n rfl rfl ?_
        refine R_iald rfl rfl rfl (show _ < 1000 from by omega) ?_
        try refine R_top (y := nI _) (by assumption) ?_
        refine R_mk rfl rfl (Nat.le_of_ble_eq_true rfl) g1 g2 g3 (by rw [g1.1 12 _ (by omega), g1.1 13 _ (by omega)]; exact w6 s hs) (fun j hj q1 q2 => ?_) (fun L2 M2 e1 e2 e3 e4 => ?_)
        · rw [g1.1 12 _ (by omega)] at q1
          rw [g1.1 13 _ (by omega)] at q2
          exact ⟨hj, 0, Or.inl (Or.inl ⟨s, hs, q1, q2⟩)⟩
        · rw [g1.1 12 _ (by omega), g1.1 13 _ (by omega)] at e4
          refine R_iinc (lv' := [(2, _), (0, _), (1, _)]) rfl rfl (by exact nI_1 _) rfl ?_
          refine R_goto (pc' := 29) rfl rfl ?_
          refine nx L2 M2 e1 e2 (fun i hi q => e4 i hi ?_)
          obtain ⟨k, q, q5⟩ := q
          by_cases hks : k = s
          · subst hks
            exact Or.inr q5
          · exact Or.inl ⟨k, by omega, q5⟩
  -- no marks at first
  refine R_aload_n rfl rfl ?_
  refine R_iconst (y := nI 0) rfl (by decide) ?_
  refine R_put rfl rfl rfl ?_
  refine R_iconst (y := nI 0) rfl (by decide) ?_
  refine R_istore_n (lv' := [(2, _), (0, _), (1, _)]) rfl rfl ?_
  refine dn_up (P := fun s => WR (CalR (d + 1)) t_X9_reach 9 none Q 7 [(2, .int (nI s)), (0, .ref 0), (1, .int b)] [] (fil (up2 M 39 0 0) 37 s 0)) (N := 1500) ?_ ?_ 0 (Nat.zero_le _) |> fun h0 => by
    rw [fil_0] at h0
    exact h0
  · refine R_iload_n rfl rfl ?_
    refine R_sipush (y := nI 1500) rfl (by decide) ?_
    refine R_icmp (pc' := 27) rfl rfl (fun hc => ?_) (fun hc => ?_)
    · refine s3 _ ⟨fun k j hkj => ?_, List.nodup_nil, (fun i hi => by cases hi), rfl, (fun a i h => by simp at h), fun i hi => ?_⟩
      · unfold fil up2
        rw [if_neg (by omega), if_neg (by omega)]
      · show (if i < 1500 then (0 : Int32) else _) = _
        rw [if_pos hi]
        simp
    · exact (ge_yes hc).elim
  · intro s hs nx
    refine R_iload_n rfl rfl ?_
    refine R_sipush (y := nI 1500) rfl (by decide) ?_
    refine R_icmp (pc' := 27) rfl rfl (fun hc => ?_) (fun hc => ?_)
    · exact (ge_no hs (by omega) hc).elim
    · refine R_aload_n rfl rfl ?_
      refine R_getA rfl rfl (Or.inr rfl) ?_
      refine R_iload_n rfl rfl ?_
      refine R_iconst (y := nI 0) rfl (by decide) ?_
      refine R_bast rfl rfl rfl (show _ < 1500 from by omega) (by first | exact Or.inl rfl | exact Or.inr rfl | assumption) ?_
      refine R_iinc (lv' := [(2, _), (0, _), (1, _)]) rfl rfl (by exact nI_1 _) rfl ?_
      refine R_goto (pc' := 7) rfl rfl ?_
      rw [nI_0, fil_s]
      exact nx
end
section
/-! ===== the reference: free, major, heldCells ===== -/
def sumN (f : Nat → Nat) : Nat → Nat
  | 0 => 0
  | n + 1 => sumN f n + f n
def szM (M : Mem) (i : Nat) : Nat := 3 + (M 32 i).toNatClampNeg
def eqm (M M1 : Mem) : Prop := ∀ k j, (k < 37 ∨ 39 < k) → M1 k j = M k j
/-- behind the freeing of those places below s that F names -/
def gcM (M : Mem) (F : Nat → Bool) (s : Nat) : Mem := fun k => if k = 29 then (fun j => if j < s ∧ F j = true then 0 else M 29 j) else if k = 41 then (fun j => if j = 0 then M 41 0 - nI (sumN (fun i => if F i = true ∧ M 30 i = 0 then szM M i else 0) s) else M 41 j) else if k = 42 then (fun j => if j = 0 then M 42 0 - nI (sumN (fun i => if F i = true ∧ ¬ M 30 i = 0 then szM M i else 0) s) else M 42 j) else if k = 43 then (fun j => if j = 0 then M 43 0 + nI (sumN (fun i => if F i = true then 1 else 0) s) else M 43 j) else M k
def freeM (M : Mem) (i n : Nat) : Mem := up2 (up2 (if M 30 i = 0 then up2 M 41 0 (M 41 0 - nI (3 + n)) else up2 M 42 0 (M 42 0 - nI (3 + n))) 29 i 0) 43 0 (M 43 0 + 1)
theorem gcM_0 (M : Mem) (F : Nat → Bool) : gcM M F 0 = M := by
  funext k j
  unfold gcM
  by_cases h1 : k = 29
  · subst h1; simp
  · by_cases h2 : k = 41
    · subst h2
      simp only [sumN, nI_0, Int32.sub_zero]
      by_cases hj : j = 0
      · subst hj; simp
      · simp [hj]
    · by_cases h3 : k = 42
      · subst h3
        simp only [sumN, nI_0, Int32.sub_zero]
        by_cases hj : j = 0
        · subst hj; simp
        · simp [hj]
      · by_cases h4 : k = 43
        · subst h4
          simp only [sumN, nI_0, Int32.add_zero]
          by_cases hj : j = 0
          · subst hj; simp
          · simp [hj]
        · simp [h1, h2, h3, h4]
theorem gcM_no {M : Mem} {F : Nat → Bool} {s : Nat} (h : F s = false) : gcM M F (s + 1) = gcM M F s := by
  funext k j
  unfold gcM
  have h29 : (if j < s + 1 ∧ F j = true then (0 : Int32) else M 29 j) = if j < s ∧ F j = true then 0 else M 29 j := by
    by_cases hj : j = s
    · subst hj
      simp [h]
    · have : (j < s + 1) ↔ (j < s) := by omega
      simp [this]
  by_cases hk : k = 29
  · subst hk
    exact h29
  · simp [hk, sumN, h]
theorem subN (x : Int32) (a b : Nat) : x - nI a - nI b = x - nI (a + b) := by
  rw [← nI_add]
  exact Int32.sub_sub ..
theorem gcM_yes {M : Mem} {F : Nat → Bool} {s n : Nat} (h : F s = true) (hn : M 32 s = nI n) (hn4 : n ≤ 40) : freeM (gcM M F s) s n = gcM M F (s + 1) := by
  have hsz : szM M s = 3 + n := by
    unfold szM
    rw [hn, nI_clamp (by omega)]
  have h30 : gcM M F s 30 s = M 30 s := rfl
  funext k j
  unfold freeM
  rw [h30]
  by_cases ho : M 30 s = 0
  · rw [if_pos ho]
    unfold up2 upd
    by_cases h1 : k = 43
    · subst h1
      simp only [if_true]
      show (if j = 0 then gcM M F s 43 0 + 1 else gcM M F s 43 j) = gcM M F (s + 1) 43 j
      by_cases hj : j = 0
      · subst hj
        show M 43 0 + nI _ + 1 = M 43 0 + nI _
        rw [sumN, h, Int32.add_assoc]
        congr 1
        exact nI_1 _
      · rw [if_neg hj]
        show (if j = 0 then _ else M 43 j) = (if j = 0 then _ else M 43 j)
        rw [if_neg hj, if_neg hj]
    · rw [if_neg h1]
      by_cases h2 : k = 29
      · subst h2
        show (if j = s then (0 : Int32) else if j < s ∧ F j = true then 0 else M 29 j) = if j < s + 1 ∧ F j = true then 0 else M 29 j
        by_cases hj : j = s
        · subst hj
          rw [if_pos rfl, if_pos ⟨by omega, h⟩]
        · have : (j < s + 1) ↔ (j < s) := by omega
          simp [hj, this]
      · rw [if_neg h2]
        by_cases h3 : k = 41
        · subst h3
          show (if j = 0 then gcM M F s 41 0 - nI (3 + n) else gcM M F s 41 j) = gcM M F (s + 1) 41 j
          by_cases hj : j = 0
          · subst hj
            show M 41 0 - nI _ - nI (3 + n) = M 41 0 - nI _
            rw [sumN, if_pos ⟨h, ho⟩, hsz, subN]
          · rw [if_neg hj]
            show (if j = 0 then _ else M 41 j) = (if j = 0 then _ else M 41 j)
            rw [if_neg hj, if_neg hj]
        · rw [if_neg h3]
          unfold gcM
          rw [if_neg h2, if_neg h3, if_neg h1, if_neg h2, if_neg h3, if_neg h1]
          by_cases h4 : k = 42
          · subst h4
            simp only [if_true, sumN]
            rw [if_neg (fun q : F s = true ∧ ¬ M 30 s = 0 => q.2 ho)]
            rfl
          · simp [h4]
  · rw [if_neg ho]
    unfold up2 upd
    by_cases h1 : k = 43
    · subst h1
      simp only [if_true]
      show (if j = 0 then gcM M F s 43 0 + 1 else gcM M F s 43 j) = gcM M F (s + 1) 43 j
      by_cases hj : j = 0
      · subst hj
        show M 43 0 + nI _ + 1 = M 43 0 + nI _
        rw [sumN, h, Int32.add_assoc]
        congr 1
        exact nI_1 _
      · rw [if_neg hj]
        show (if j = 0 then _ else M 43 j) = (if j = 0 then _ else M 43 j)
        rw [if_neg hj, if_neg hj]
    · rw [if_neg h1]
      by_cases h2 : k = 29
      · subst h2
        show (if j = s then (0 : Int32) else if j < s ∧ F j = true then 0 else M 29 j) = if j < s + 1 ∧ F j = true then 0 else M 29 j
        by_cases hj : j = s
        · subst hj
          rw [if_pos rfl, if_pos ⟨by omega, h⟩]
        · have : (j < s + 1) ↔ (j < s) := by omega
          simp [hj, this]
      · rw [if_neg h2]
        by_cases h3 : k = 42
        · subst h3
          show (if j = 0 then gcM M F s 42 0 - nI (3 + n) else gcM M F s 42 j) = gcM M F (s + 1) 42 j
          by_cases hj : j = 0
          · subst hj
            show M 42 0 - nI _ - nI (3 + n) = M 42 0 - nI _
            rw [sumN, if_pos ⟨h, ho⟩, hsz, subN]
          · rw [if_neg hj]
            show (if j = 0 then _ else M 42 j) = (if j = 0 then _ else M 42 j)
            rw [if_neg hj, if_neg hj]
        · rw [if_neg h3]
          unfold gcM
          rw [if_neg h2, if_neg h1, if_neg h3, if_neg h2, if_neg h1, if_neg h3]
          by_cases h4 : k = 41
          · subst h4
            simp only [if_true, sumN]
            rw [if_neg (fun q : F s = true ∧ M 30 s = 0 => ho q.2)]
            rfl
          · simp [h4]
theorem r_free {d : Nat} {M : Mem} {i n : Nat} (hi : i < 1500) (hn : M 32 i = nI n) : CalR (d + 2) j_X9_free [.ref 0, .int (nI i)] M none (freeM M i n) := by
  refine CalR_of (md := md_X9_free) (d := d + 1) rfl (Nat.le_of_ble_eq_true rfl) ?_
  show WR (CalR (d + 1)) t_X9_free 9 none _ 0 [(0, .ref 0), (1, .int (nI i))] [] _
  unfold freeM
  refine R_aload_n rfl rfl ?_
  refine R_getA rfl rfl (Or.inr rfl) ?_
  refine R_iload_n rfl rfl ?_
  refine R_bald rfl rfl rfl (show _ < 1500 from by omega) ?_
  try refine R_top (y := nI _) (by assumption) ?_
  refine R_if (pc' := 26) rfl rfl (fun hc => ?_) (fun hc => ?_)
  · rw [if_pos (show M 30 i = 0 from hc)]
    refine R_aload_n rfl rfl ?_
    refine R_aload_n rfl rfl ?_
    refine R_getI rfl rfl (Or.inl rfl) ?_
    try refine R_top (y := nI _) (by assumption) ?_
    refine R_aload_n rfl rfl ?_
    refine R_iload_n rfl rfl ?_
    refine R_virt rfl rfl rfl rfl rfl rfl rfl (Nat.le_of_ble_eq_true rfl) (fun _ q => by cases q) (r_sizeOf hi hn) ?_
    first | refine R_isubN rfl (by omega) ?_ | refine R_isub rfl ?_
    refine R_put rfl rfl rfl ?_
    refine R_aload_n rfl rfl ?_
    refine R_getA rfl rfl (Or.inl rfl) ?_
    refine R_iload_n rfl rfl ?_
    refine R_iconst (y := nI 0) rfl (by decide) ?_
    refine R_iast rfl rfl rfl (show _ < 1500 from by omega) ?_
    refine R_aload_n rfl rfl ?_
    refine R_dup rfl ?_
    refine R_getI rfl rfl (Or.inl rfl) ?_
    try refine R_top (y := nI _) (by assumption) ?_
    refine R_iconst (y := nI 1) rfl (by decide) ?_
    first | refine R_iaddN rfl ?_ | refine R_iadd rfl ?_
    refine R_put rfl rfl rfl ?_
    exact R_ret rfl rfl ⟨rfl, rfl⟩
  · rw [if_neg (show ¬ M 30 i = 0 from hc)]
    refine R_aload_n rfl rfl ?_
    refine R_aload_n rfl rfl ?_
    refine R_getI rfl rfl (Or.inl rfl) ?_
    try refine R_top (y := nI _) (by assumption) ?_
    refine R_aload_n rfl rfl ?_
    refine R_iload_n rfl rfl ?_
    refine R_virt rfl rfl rfl rfl rfl rfl rfl (Nat.le_of_ble_eq_true rfl) (fun _ q => by cases q) (r_sizeOf hi hn) ?_
    first | refine R_isubN rfl (by omega) ?_ | refine R_isub rfl ?_
    refine R_put rfl rfl rfl ?_
    refine R_goto (pc' := 40) rfl rfl ?_
    refine R_aload_n rfl rfl ?_
    refine R_getA rfl rfl (Or.inl rfl) ?_
    refine R_iload_n rfl rfl ?_
    refine R_iconst (y := nI 0) rfl (by decide) ?_
    refine R_iast rfl rfl rfl (show _ < 1500 from by omega) ?_
    refine R_aload_n rfl rfl ?_
    refine R_dup rfl ?_
    refine R_getI rfl rfl (Or.inl rfl) ?_
    try refine R_top (y := nI _) (by assumption) ?_
    refine R_iconst (y := nI 1) rfl (by decide) ?_
    first | refine R_iaddN rfl ?_ | refine R_iadd rfl ?_
    refine R_put rfl rfl rfl ?_
    exact R_ret rfl rfl ⟨rfl, rfl⟩
theorem gcM_eqm {M M1 : Mem} {F : Nat → Bool} (h : eqm M M1) (s : Nat) : eqm (gcM M F s) (gcM M1 F s) := by
  intro k j hk
  have e : ∀ k j, (k < 37 ∨ 39 < k) → M1 k j = M k j := h
  have e32 : ∀ i, szM M1 i = szM M i := fun i => by unfold szM; rw [e 32 i (by omega)]
  unfold gcM
  simp only [e 29 _ (by omega), e 30 _ (by omega), e 41 _ (by omega), e 42 _ (by omega), e 43 _ (by omega), e32]
  by_cases h1 : k = 29
  · simp [h1]
  · by_cases h2 : k = 41
    · simp [h2]
    · by_cases h3 : k = 42
      · simp [h3]
      · by_cases h4 : k = 43
        · simp [h4]
        · simp only [h1, h2, h3, h4, if_false]
          exact e k j hk
/-- who is freed by a MAJOR that has found the list L -/
def frJ (M : Mem) (L : List Nat) : Nat → Bool := fun i => decide (0 < M 29 i) && !decide (i ∈ L)
theorem subS (x y : Int32) (a b : Nat) : x + y - (x - nI a) - (y - nI b) = nI (a + b) := by
  rw [← nI_add]
  apply Int32.toBitVec_inj.mp
  simp only [Int32.toBitVec_sub, Int32.toBitVec_add]
  generalize x.toBitVec = p
  generalize y.toBitVec = q
  generalize (nI a).toBitVec = r
  generalize (nI b).toBitVec = t
  apply BitVec.eq_of_toNat_eq
  simp only [BitVec.toNat_sub, BitVec.toNat_add]
  omega
theorem sum_split (f g h : Nat → Nat) (hh : ∀ i, f i + g i = h i) : ∀ n, sumN f n + sumN g n = sumN h n
  | 0 => rfl
  | n + 1 => by
    have := sum_split f g h hh n
    have := hh n
    simp only [sumN]
    omega
theorem r_major {d : Nat} {M : Mem} {p f : Nat} {lm : Nat → Nat} (hw : wfR M p f lm) : CQ (d + 3) j_X9_major [.ref 0] M (fun v M2 => ∃ L, (∀ i, i < 1500 → (i ∈ L ↔ rchR M p f lm ((0 : Int32) = 1) i)) ∧ v = some (.int (nI (sumN (fun i => if frJ M L i = true then szM M i else 0) 1500))) ∧ eqm (up2 (gcM M (frJ M L) 1500) 45 0 (M 45 0 + 1)) M2) := by
  refine CQ_of (md := md_X9_major) (d := d + 2) rfl (Nat.le_of_ble_eq_true rfl) ?_
  show WR (CalR (d + 2)) t_X9_major 9 (some .int) _ 0 [(0, .ref 0)] [] _
  refine R_aload_n rfl rfl ?_
  refine R_iconst (y := nI 0) rfl (by decide) ?_
  refine R_vq rfl rfl rfl rfl rfl rfl rfl (Nat.le_of_ble_eq_true rfl) (r_reach hw (Or.inl rfl)) ?_
  rintro v M1 ⟨rfl, L, hmk, hL⟩
  have heq : eqm M M1 := hmk.1
  refine R_aload_n rfl rfl ?_
  refine R_getI rfl rfl (Or.inl rfl) ?_
  try refine R_top (y := nI _) (by assumption) ?_
  refine R_aload_n rfl rfl ?_
  refine R_getI rfl rfl (Or.inl rfl) ?_
  try refine R_top (y := nI _) (by assumption) ?_
  first | refine R_iaddN rfl ?_ | refine R_iadd rfl ?_
  refine R_istore_n (lv' := [(1, _), (0, _)]) rfl rfl ?_
  refine R_iconst (y := nI 0) rfl (by decide) ?_
  refine R_istore_n (lv' := [(2, _), (1, _), (0, _)]) rfl rfl ?_
  have hfr : ∀ i, frJ M1 L i = frJ M L i := fun i => by unfold frJ; rw [heq 29 i (by omega)]
  refine dn_up (P := fun s => WR (CalR (d + 2)) t_X9_major 9 (some .int) _ 17 [(2, .int (nI s)), (1, .int (M1 41 0 + M1 42 0)), (0, .ref 0)] [] (gcM M1 (frJ M L) s)) (N := 1500) ?_ ?_ 0 (Nat.zero_le _) |> fun h0 => by
    rw [gcM_0] at h0
    exact h0
  · refine R_iload_n rfl rfl ?_
    refine R_sipush (y := nI 1500) rfl (by decide) ?_
    refine R_icmp (pc' := 53) rfl rfl (fun hc => ?_) (fun hc => ?_)
    · refine R_aload_n rfl rfl ?_
      refine R_dup rfl ?_
      refine R_getI rfl rfl (Or.inl rfl) ?_
      try refine R_top (y := nI _) (by assumption) ?_
      refine R_iconst (y := nI 1) rfl (by decide) ?_
      first | refine R_iaddN rfl ?_ | refine R_iadd rfl ?_
      refine R_put rfl rfl rfl ?_
      refine R_iload_n rfl rfl ?_
      refine R_aload_n rfl rfl ?_
      refine R_getI rfl rfl (Or.inl rfl) ?_
      refine R_isub rfl ?_
      refine R_aload_n rfl rfl ?_
      refine R_getI rfl rfl (Or.inl rfl) ?_
      refine R_isub rfl ?_
      have hv : M1 41 0 + M1 42 0 - up2 (gcM M1 (frJ M L) 1500) 45 0 (gcM M1 (frJ M L) 1500 45 0 + nI 1) 41 0 - up2 (gcM M1 (frJ M L) 1500) 45 0 (gcM M1 (frJ M L) 1500 45 0 + nI 1) 42 0 = nI (sumN (fun i => if frJ M L i = true then szM M i else 0) 1500) := by
        show M1 41 0 + M1 42 0 - (M1 41 0 - nI (sumN (fun i => if frJ M L i = true ∧ M1 30 i = 0 then szM M1 i else 0) 1500)) - (M1 42 0 - nI (sumN (fun i => if frJ M L i = true ∧ ¬ M1 30 i = 0 then szM M1 i else 0) 1500)) = _
        rw [subS, sum_split _ _ (fun i => if frJ M L i = true then szM M i else 0) (fun i => ?_)]
        have e32 : szM M1 i = szM M i := by unfold szM; rw [heq 32 i (by omega)]
        rw [e32]
        by_cases q1 : frJ M L i = true <;> by_cases q2 : M1 30 i = 0 <;> simp [q1, q2]
      refine R_top hv ?_
      refine R_iret rfl rfl trivial ⟨L, hL, rfl, fun k j hk => ?_⟩
      by_cases h45 : k = 45
      · subst h45
        show upd (gcM M1 (frJ M L) 1500 45) 0 (gcM M1 (frJ M L) 1500 45 0 + nI 1) j = upd (gcM M (frJ M L) 1500 45) 0 (M 45 0 + 1) j
        unfold upd
        by_cases hj : j = 0
        · rw [if_pos hj, if_pos hj]
          show M1 45 0 + nI 1 = M 45 0 + 1
          rw [heq 45 0 (by omega)]
          rfl
        · rw [if_neg hj, if_neg hj]
          show M1 45 j = M 45 j
          exact heq 45 j (by omega)
      · unfold up2
        rw [if_neg h45, if_neg h45]
        exact gcM_eqm heq 1500 k j hk
    · exact (ge_yes hc).elim
  · intro s hs nx
    obtain ⟨n, hn4, hn⟩ := (hw.2.2.2.2.2.2.2.2.2.2 s hs).1
    have hn1 : M1 32 s = nI n := (heq 32 s (by omega)).trans hn
    have hskip : frJ M L s = false → WR (CalR (d + 2)) t_X9_major 9 (some .int) (fun v M2 => ∃ L, (∀ i, i < 1500 → (i ∈ L ↔ rchR M p f lm ((0 : Int32) = 1) i)) ∧ v = some (.int (nI (sumN (fun i => if frJ M L i = true then szM M i else 0) 1500))) ∧ eqm (up2 (gcM M (frJ M L) 1500) 45 0 (M 45 0 + 1)) M2) 47 [(2, .int (nI s)), (1, .int (M1 41 0 + M1 42 0)), (0, .ref 0)] [] (gcM M1 (frJ M L) s) := by
      intro hno
      rw [← gcM_no hno]
      refine R_iinc (lv' := [(2, _), (1, _), (0, _)]) rfl rfl (by exact nI_1 _) rfl ?_
      refine R_goto (pc' := 17) rfl rfl ?_
      exact nx
    have hser : gcM M1 (frJ M L) s 29 s = M 29 s := by
      show (if s < s ∧ _ then (0 : Int32) else M1 29 s) = _
      rw [if_neg (fun q => absurd q.1 (by omega)), heq 29 s (by omega)]
    refine R_iload_n rfl rfl ?_
    refine R_sipush (y := nI 1500) rfl (by decide) ?_
    refine R_icmp (pc' := 53) rfl rfl (fun hc => ?_) (fun hc => ?_)
    · exact (ge_no hs (by omega) hc).elim
    · refine R_aload_n rfl rfl ?_
      refine R_getA rfl rfl (Or.inl rfl) ?_
      refine R_iload_n rfl rfl ?_
      refine R_iald rfl rfl rfl (show _ < 1500 from by omega) ?_
      try refine R_top (y := nI _) (by assumption) ?_
      refine R_top hser ?_
      refine R_if (pc' := 47) rfl rfl (fun hc => ?_) (fun hc => ?_)
      · exact hskip (by unfold frJ; rw [decide_eq_false (Int32.not_lt.mpr hc)]; rfl)
      · have hlive : 0 < M 29 s := Int32.not_le.mp hc
        refine R_aload_n rfl rfl ?_
        refine R_getA rfl rfl (Or.inr rfl) ?_
        refine R_iload_n rfl rfl ?_
        refine R_bald rfl rfl rfl (show _ < 1500 from by omega) ?_
        try refine R_top (y := nI _) (by assumption) ?_
        refine R_top (show gcM M1 (frJ M L) s 37 s = if s ∈ L then 1 else 0 from hmk.2.2.2.2.2 s hs) ?_
        refine R_if (pc' := 47) rfl rfl (fun hc => ?_) (fun hc => ?_)
        · have hin : s ∈ L := by
            apply Classical.byContradiction
            intro hn
            rw [if_neg hn] at hc
            exact hc rfl
          exact hskip (by unfold frJ; simp [hin])
        · have hnin : s ∉ L := by
            intro hin
            rw [if_pos hin] at hc
            exact hc (show ¬ (1 : Int32) = 0 by decide)
          have hF : frJ M L s = true := by unfold frJ; simp [hlive, hnin]
          refine R_aload_n rfl rfl ?_
          refine R_iload_n rfl rfl ?_
          refine R_virt rfl rfl rfl rfl rfl rfl rfl (Nat.le_of_ble_eq_true rfl) (fun _ q => by cases q) (r_free hs (show gcM M1 (frJ M L) s 32 s = nI n from hn1)) ?_
          rw [gcM_yes hF hn1 hn4]
          refine R_iinc (lv' := [(2, _), (1, _), (0, _)]) rfl rfl (by exact nI_1 _) rfl ?_
          refine R_goto (pc' := 17) rfl rfl ?_
          exact nx
end
section
/-! ===== the reference: heldCells, minor, greatHas ===== -/
/-- who is held: young, and in the list L -/
def hdY (M : Mem) (L : List Nat) (i : Nat) : Nat := if 0 < M 29 i ∧ M 30 i = 0 ∧ i ∈ L then szM M i else 0
theorem wfR_eqm {M M1 : Mem} {p f : Nat} {lm : Nat → Nat} (h : eqm M M1) (hw : wfR M p f lm) : wfR M1 p f lm := by
  have e : ∀ k j, (k < 37 ∨ 39 < k) → M1 k j = M k j := h
  unfold wfR at hw ⊢
  simp only [e 14 _ (by omega), e 22 _ (by omega), e 19 _ (by omega), e 12 _ (by omega), e 13 _ (by omega), e 17 _ (by omega), e 18 _ (by omega), e 20 _ (by omega), e 21 _ (by omega), e 23 _ (by omega), e 24 _ (by omega), e 25 _ (by omega), e 32 _ (by omega), e 31 _ (by omega), e 35 _ (by omega), e 36 _ (by omega)]
  exact hw
theorem r_heldCells {d : Nat} {M : Mem} {p f : Nat} {lm : Nat → Nat} (hw : wfR M p f lm) : CQ (d + 3) j_X9_heldCells [.ref 0] M (fun v M2 => ∃ L, mkl M M2 L ∧ (∀ i, i < 1500 → (i ∈ L ↔ rchR M p f lm ((1 : Int32) = 1) i)) ∧ v = some (.int (nI (sumN (hdY M L) 1500)))) := by
  refine CQ_of (md := md_X9_heldCells) (d := d + 2) rfl (Nat.le_of_ble_eq_true rfl) ?_
  show WR (CalR (d + 2)) t_X9_heldCells 9 (some .int) _ 0 [(0, .ref 0)] [] _
  refine R_aload_n rfl rfl ?_
  refine R_iconst (y := nI 1) rfl (by decide) ?_
  refine R_vq rfl rfl rfl rfl rfl rfl rfl (Nat.le_of_ble_eq_true rfl) (r_reach hw (Or.inr rfl)) ?_
  rintro v M1 ⟨rfl, L, hmk, hL⟩
  have heq : eqm M M1 := hmk.1
  refine R_iconst (y := nI 0) rfl (by decide) ?_
  refine R_istore_n (lv' := [(1, _), (0, _)]) rfl rfl ?_
  refine R_iconst (y := nI 0) rfl (by decide) ?_
  refine R_istore_n (lv' := [(2, _), (1, _), (0, _)]) rfl rfl ?_
  refine dn_up (P := fun s => WR (CalR (d + 2)) t_X9_heldCells 9 (some .int) _ 9 [(2, .int (nI s)), (1, .int (nI (sumN (hdY M L) s))), (0, .ref 0)] [] M1) (N := 1500) ?_ ?_ 0 (Nat.zero_le _)
  · refine R_iload_n rfl rfl ?_
    refine R_sipush (y := nI 1500) rfl (by decide) ?_
    refine R_icmp (pc' := 57) rfl rfl (fun hc => ?_) (fun hc => ?_)
    · refine R_iload_n rfl rfl ?_
      exact R_iret rfl rfl trivial ⟨L, hmk, hL, rfl⟩
    · exact (ge_yes hc).elim
  · intro s hs nx
    obtain ⟨n, hn4, hn⟩ := (hw.2.2.2.2.2.2.2.2.2.2 s hs).1
    have hn1 : M1 32 s = nI n := (heq 32 s (by omega)).trans hn
    have hsz : szM M s = 3 + n := by
      unfold szM
      rw [hn, nI_clamp (by omega)]
    have hskip : hdY M L s = 0 → WR (CalR (d + 2)) t_X9_heldCells 9 (some .int) (fun v M2 => ∃ L, mkl M M2 L ∧ (∀ i, i < 1500 → (i ∈ L ↔ rchR M p f lm ((1 : Int32) = 1) i)) ∧ v = some (.int (nI (sumN (hdY M L) 1500)))) 51 [(2, .int (nI s)), (1, .int (nI (sumN (hdY M L) s))), (0, .ref 0)] [] M1 := by
      intro hno
      refine R_iinc (lv' := [(2, _), (1, _), (0, _)]) rfl rfl (by exact nI_1 _) rfl ?_
      refine R_goto (pc' := 9) rfl rfl ?_
      have e : sumN (hdY M L) (s + 1) = sumN (hdY M L) s := by rw [sumN, hno, Nat.add_zero]
      rw [e] at nx
      exact nx
    refine R_iload_n rfl rfl ?_
    refine R_sipush (y := nI 1500) rfl (by decide) ?_
    refine R_icmp (pc' := 57) rfl rfl (fun hc => ?_) (fun hc => ?_)
    · exact (ge_no hs (by omega) hc).elim
    · refine R_aload_n rfl rfl ?_
      refine R_getA rfl rfl (Or.inl rfl) ?_
      refine R_iload_n rfl rfl ?_
      refine R_iald rfl rfl rfl (show _ < 1500 from by omega) ?_
      try refine R_top (y := nI _) (by assumption) ?_
      refine R_top (heq 29 s (by omega)) ?_
      refine R_if (pc' := 51) rfl rfl (fun hc => ?_) (fun hc => ?_)
      · exact hskip (if_neg (fun q => Int32.not_le.mpr q.1 hc))
      · have hlive : 0 < M 29 s := Int32.not_le.mp hc
        refine R_aload_n rfl rfl ?_
        refine R_getA rfl rfl (Or.inr rfl) ?_
        refine R_iload_n rfl rfl ?_
        refine R_bald rfl rfl rfl (show _ < 1500 from by omega) ?_
        try refine R_top (y := nI _) (by assumption) ?_
        refine R_top (heq 30 s (by omega)) ?_
        refine R_if (pc' := 51) rfl rfl (fun hc => ?_) (fun hc => ?_)
        · exact hskip (if_neg (fun q => hc q.2.1))
        · have hy : M 30 s = 0 := Classical.byContradiction (fun q => hc q)
          refine R_aload_n rfl rfl ?_
          refine R_getA rfl rfl (Or.inr rfl) ?_
          refine R_iload_n rfl rfl ?_
          refine R_bald rfl rfl rfl (show _ < 1500 from by omega) ?_
          try refine R_top (y := nI _) (by assumption) ?_
          refine R_top (hmk.2.2.2.2.2 s hs) ?_
          refine R_if (pc' := 51) rfl rfl (fun hc => ?_) (fun hc => ?_)
          · have hnin : s ∉ L := by
              intro hin
              rw [if_pos hin] at hc
              exact absurd hc (show ¬ (1 : Int32) = 0 by decide)
            exact hskip (if_neg (fun q => hnin q.2.2))
          · have hin : s ∈ L := by
              apply Classical.byContradiction
              intro hn
              rw [if_neg hn] at hc
              exact hc rfl
            refine R_iload_n rfl rfl ?_
            refine R_aload_n rfl rfl ?_
            refine R_iload_n rfl rfl ?_
            refine R_virt rfl rfl rfl rfl rfl rfl rfl (Nat.le_of_ble_eq_true rfl) (fun _ q => by cases q) (r_sizeOf hs hn1) ?_
            first | refine R_iaddN rfl ?_ | refine R_iadd rfl ?_
            refine R_istore_n (lv' := [(1, _), (2, _), (0, _)]) rfl rfl ?_
            refine R_iinc (lv' := [(2, _), (1, _), (0, _)]) rfl rfl (by exact nI_1 _) rfl ?_
            refine R_goto (pc' := 9) rfl rfl ?_
            refine R_sub [0, 1, 2] rfl rfl rfl ?_
            have e : sumN (hdY M L) (s + 1) = sumN (hdY M L) s + (3 + n) := by
              rw [sumN, show hdY M L s = 3 + n from (if_pos ⟨hlive, hy, hin⟩).trans hsz]
            rw [e] at nx
            exact nx
/-- who is freed by a MINOR that has found the list L -/
def frN (M : Mem) (L : List Nat) : Nat → Bool := fun i => decide (0 < M 29 i) && decide (M 30 i = 0) && !decide (i ∈ L)
/-- all that are there are old, below s -/
def oldM (M : Mem) (s : Nat) : Mem := fun k => if k = 30 then (fun j => if j < s ∧ 0 < M 29 j then 1 else M 30 j) else M k
/-- behind a MINOR that did all: M1 has its frees done -/
def minM (M : Mem) (L : List Nat) (h : Int32) : Mem := up2 (up2 (up2 (up2 (oldM (gcM M (frN M L) 1500) 1500) 42 0 (gcM M (frN M L) 1500 42 0 + gcM M (frN M L) 1500 41 0)) 41 0 0) 46 0 h) 44 0 (M 44 0 + 1)
theorem oldM_0 (M : Mem) : oldM M 0 = M := by
  funext k j
  unfold oldM
  by_cases h : k = 30
  · subst h; simp
  · simp [h]
theorem oldM_no {M : Mem} {s : Nat} (h : ¬ 0 < M 29 s) : oldM M (s + 1) = oldM M s := by
  funext k j
  unfold oldM
  by_cases hk : k = 30
  · subst hk
    simp only [if_true]
    by_cases hj : j = s
    · subst hj
      simp [h]
    · have : (j < s + 1) ↔ (j < s) := by omega
      simp [this]
  · simp [hk]
theorem oldM_yes {M : Mem} {s : Nat} (h : 0 < M 29 s) : up2 (oldM M s) 30 s 1 = oldM M (s + 1) := by
  funext k j
  unfold up2 upd
  by_cases hk : k = 30
  · subst hk
    show (if j = s then (1 : Int32) else if j < s ∧ 0 < M 29 j then 1 else M 30 j) = if j < s + 1 ∧ 0 < M 29 j then 1 else M 30 j
    by_cases hj : j = s
    · subst hj
      rw [if_pos rfl, if_pos ⟨by omega, h⟩]
    · have : (j < s + 1) ↔ (j < s) := by omega
      simp [hj, this]
  · rw [if_neg hk]
    unfold oldM
    rw [if_neg hk, if_neg hk]
/-- the end of minor, from its frees on -/
theorem r_minorE {d : Nat} {M M1 : Mem} {p f : Nat} {lm : Nat → Nat} {L : List Nat} {h : Int32} {x2 : Value} (hw : wfR M p f lm) (hmk : mkl M M1 L) (Q : Option Value → Mem → Prop) (hQ : ∀ M2, eqm (minM M L h) M2 → Q (some (.int 1)) M2) : WR (CalR (d + 2)) t_X9_minor 9 (some .boolean) Q 43 [(1, .int h), (0, .ref 0)] [] M1 := by
  have heq : eqm M M1 := hmk.1
  have hfin : WR (CalR (d + 2)) t_X9_minor 9 (some .boolean) Q 90 [(2, .int (nI 1500)), (1, .int h), (0, .ref 0)] [] (gcM M1 (frN M L) 1500) := by
    generalize hG : gcM M1 (frN M L) 1500 = G
    have hGe : eqm (gcM M (frN M L) 1500) G := by
      rw [← hG]
      exact gcM_eqm heq 1500
    refine R_iconst (y := nI 0) rfl (by decide) ?_
    refine R_istore_n (lv' := [(2, _), (1, _), (0, _)]) rfl rfl ?_
    refine dn_up (P := fun s => WR (CalR (d + 2)) t_X9_minor 9 (some .boolean) Q 92 [(2, .int (nI s)), (1, .int h), (0, .ref 0)] [] (oldM G s)) (N := 1500) ?_ ?_ 0 (Nat.zero_le _) |> fun h0 => by
      rw [oldM_0] at h0
      exact h0
    · refine R_iload_n rfl rfl ?_
      refine R_sipush (y := nI 1500) rfl (by decide) ?_
      refine R_icmp (pc' := 121) rfl rfl (fun hc => ?_) (fun hc => ?_)
      · refine R_aload_n rfl rfl ?_
        refine R_aload_n rfl rfl ?_
        refine R_getI rfl rfl (Or.inl rfl) ?_
        try refine R_top (y := nI _) (by assumption) ?_
        refine R_aload_n rfl rfl ?_
        refine R_getI rfl rfl (Or.inl rfl) ?_
        try refine R_top (y := nI _) (by assumption) ?_
        first | refine R_iaddN rfl ?_ | refine R_iadd rfl ?_
        refine R_put rfl rfl rfl ?_
        refine R_aload_n rfl rfl ?_
        refine R_iconst (y := nI 0) rfl (by decide) ?_
        refine R_put rfl rfl rfl ?_
        refine R_aload_n rfl rfl ?_
        refine R_iload_n rfl rfl ?_
        refine R_put rfl rfl rfl ?_
        refine R_aload_n rfl rfl ?_
        refine R_dup rfl ?_
        refine R_getI rfl rfl (Or.inl rfl) ?_
        try refine R_top (y := nI _) (by assumption) ?_
        refine R_iconst (y := nI 1) rfl (by decide) ?_
        first | refine R_iaddN rfl ?_ | refine R_iadd rfl ?_
        refine R_put rfl rfl rfl ?_
        refine R_iconst (y := nI 1) rfl (by decide) ?_
        refine R_iret rfl rfl (Or.inr rfl) (hQ _ (fun k j hk => ?_))
        have e : ∀ k j, (k < 37 ∨ 39 < k) → G k j = gcM M (frN M L) 1500 k j := hGe
        have eo : ∀ k j, (k < 37 ∨ 39 < k) → oldM G 1500 k j = oldM (gcM M (frN M L) 1500) 1500 k j := fun k j hk => by
          unfold oldM
          by_cases h30 : k = 30
          · subst h30
            simp only [if_true]
            rw [e 29 j (by omega), e 30 j (by omega)]
          · rw [if_neg h30, if_neg h30]
            exact e k j hk
        unfold minM
        by_cases h44 : k = 44
        · subst h44
          show upd (G 44) 0 (G 44 0 + nI 1) j = upd (gcM M (frN M L) 1500 44) 0 (M 44 0 + 1) j
          unfold upd
          by_cases hj : j = 0
          · rw [if_pos hj, if_pos hj, e 44 0 (by omega)]
            rfl
          · rw [if_neg hj, if_neg hj]
            exact e 44 j (by omega)
        · by_cases h46 : k = 46
          · subst h46
            show upd (G 46) 0 h j = upd (gcM M (frN M L) 1500 46) 0 h j
            unfold upd
            by_cases hj : j = 0
            · rw [if_pos hj, if_pos hj]
            · rw [if_neg hj, if_neg hj]
              exact e 46 j (by omega)
          · by_cases h41 : k = 41
            · subst h41
              show upd (G 41) 0 (nI 0) j = upd (gcM M (frN M L) 1500 41) 0 0 j
              unfold upd
              by_cases hj : j = 0
              · rw [if_pos hj, if_pos hj]
                rfl
              · rw [if_neg hj, if_neg hj]
                exact e 41 j (by omega)
            · by_cases h42 : k = 42
              · subst h42
                show upd (G 42) 0 (G 42 0 + G 41 0) j = upd (gcM M (frN M L) 1500 42) 0 (gcM M (frN M L) 1500 42 0 + gcM M (frN M L) 1500 41 0) j
                unfold upd
                by_cases hj : j = 0
                · rw [if_pos hj, if_pos hj, e 42 0 (by omega), e 41 0 (by omega)]
                · rw [if_neg hj, if_neg hj]
                  exact e 42 j (by omega)
              · unfold up2
                rw [if_neg h44, if_neg h46, if_neg h41, if_neg h42, if_neg h44, if_neg h46, if_neg h41, if_neg h42]
                exact eo k j hk
      · exact (ge_yes hc).elim
    · intro s hs nx
      refine R_iload_n rfl rfl ?_
      refine R_sipush (y := nI 1500) rfl (by decide) ?_
      refine R_icmp (pc' := 121) rfl rfl (fun hc => ?_) (fun hc => ?_)
      · exact (ge_no hs (by omega) hc).elim
      · refine R_aload_n rfl rfl ?_
        refine R_getA rfl rfl (Or.inl rfl) ?_
        refine R_iload_n rfl rfl ?_
        refine R_iald rfl rfl rfl (show _ < 1500 from by omega) ?_
        try refine R_top (y := nI _) (by assumption) ?_
        refine R_top (show oldM G s 29 s = G 29 s from rfl) ?_
        refine R_if (pc' := 115) rfl rfl (fun hc => ?_) (fun hc => ?_)
        · rw [← oldM_no (Int32.not_lt.mpr hc)]
          refine R_iinc (lv' := [(2, _), (1, _), (0, _)]) rfl rfl (by exact nI_1 _) rfl ?_
          refine R_goto (pc' := 92) rfl rfl ?_
          exact nx
        · refine R_aload_n rfl rfl ?_
          refine R_getA rfl rfl (Or.inr rfl) ?_
          refine R_iload_n rfl rfl ?_
          refine R_iconst (y := nI 1) rfl (by decide) ?_
          refine R_bast rfl rfl rfl (show _ < 1500 from by omega) (by first | exact Or.inl rfl | exact Or.inr rfl | assumption) ?_
          refine R_iinc (lv' := [(2, _), (1, _), (0, _)]) rfl rfl (by exact nI_1 _) rfl ?_
          refine R_goto (pc' := 92) rfl rfl ?_
          rw [show nI 1 = 1 from rfl, oldM_yes (Int32.not_le.mp hc)]
          exact nx
  refine R_iconst (y := nI 0) rfl (by decide) ?_
  refine R_istore_n (lv' := [(2, _), (1, _), (0, _)]) rfl rfl ?_
  refine dn_up (P := fun s => WR (CalR (d + 2)) t_X9_minor 9 (some .boolean) Q 45 [(2, .int (nI s)), (1, .int h), (0, .ref 0)] [] (gcM M1 (frN M L) s)) (N := 1500) ?_ ?_ 0 (Nat.zero_le _) |> fun h0 => by
    rw [gcM_0] at h0
    exact h0
  · refine R_iload_n rfl rfl ?_
    refine R_sipush (y := nI 1500) rfl (by decide) ?_
    refine R_icmp (pc' := 90) rfl rfl (fun hc => ?_) (fun hc => ?_)
    · exact hfin
    · exact (ge_yes hc).elim
  · intro s hs nx
    obtain ⟨n, hn4, hn⟩ := (hw.2.2.2.2.2.2.2.2.2.2 s hs).1
    have hn1 : M1 32 s = nI n := (heq 32 s (by omega)).trans hn
    have hskip : frN M L s = false → WR (CalR (d + 2)) t_X9_minor 9 (some .boolean) Q 84 [(2, .int (nI s)), (1, .int h), (0, .ref 0)] [] (gcM M1 (frN M L) s) := by
      intro hno
      rw [← gcM_no hno]
      refine R_iinc (lv' := [(2, _), (1, _), (0, _)]) rfl rfl (by exact nI_1 _) rfl ?_
      refine R_goto (pc' := 45) rfl rfl ?_
      exact nx
    have hser : gcM M1 (frN M L) s 29 s = M 29 s := by
      show (if s < s ∧ _ then (0 : Int32) else M1 29 s) = _
      rw [if_neg (fun q => absurd q.1 (by omega)), heq 29 s (by omega)]
    refine R_iload_n rfl rfl ?_
    refine R_sipush (y := nI 1500) rfl (by decide) ?_
    refine R_icmp (pc' := 90) rfl rfl (fun hc => ?_) (fun hc => ?_)
    · exact (ge_no hs (by omega) hc).elim
    · refine R_aload_n rfl rfl ?_
      refine R_getA rfl rfl (Or.inl rfl) ?_
      refine R_iload_n rfl rfl ?_
      refine R_iald rfl rfl rfl (show _ < 1500 from by omega) ?_
      try refine R_top (y := nI _) (by assumption) ?_
      refine R_top hser ?_
      refine R_if (pc' := 84) rfl rfl (fun hc => ?_) (fun hc => ?_)
      · exact hskip (by unfold frN; rw [decide_eq_false (Int32.not_lt.mpr hc)]; rfl)
      · have hlive : 0 < M 29 s := Int32.not_le.mp hc
        refine R_aload_n rfl rfl ?_
        refine R_getA rfl rfl (Or.inr rfl) ?_
        refine R_iload_n rfl rfl ?_
        refine R_bald rfl rfl rfl (show _ < 1500 from by omega) ?_
        try refine R_top (y := nI _) (by assumption) ?_
        refine R_top (show gcM M1 (frN M L) s 30 s = M 30 s from heq 30 s (by omega)) ?_
        refine R_if (pc' := 84) rfl rfl (fun hc => ?_) (fun hc => ?_)
        · exact hskip (by unfold frN; rw [decide_eq_false (show ¬ M 30 s = 0 from hc)]; simp)
        · have hy : M 30 s = 0 := Classical.byContradiction (fun q => hc q)
          refine R_aload_n rfl rfl ?_
          refine R_getA rfl rfl (Or.inr rfl) ?_
          refine R_iload_n rfl rfl ?_
          refine R_bald rfl rfl rfl (show _ < 1500 from by omega) ?_
          try refine R_top (y := nI _) (by assumption) ?_
          refine R_top (show gcM M1 (frN M L) s 37 s = if s ∈ L then 1 else 0 from hmk.2.2.2.2.2 s hs) ?_
          refine R_if (pc' := 84) rfl rfl (fun hc => ?_) (fun hc => ?_)
          · have hin : s ∈ L := by
              apply Classical.byContradiction
              intro hn
              rw [if_neg hn] at hc
              exact hc rfl
            exact hskip (by unfold frN; simp [hin])
          · have hnin : s ∉ L := by
              intro hin
              rw [if_pos hin] at hc
              exact hc (show ¬ (1 : Int32) = 0 by decide)
            have hF : frN M L s = true := by unfold frN; simp [hlive, hy, hnin]
            refine R_aload_n rfl rfl ?_
            refine R_iload_n rfl rfl ?_
            refine R_virt rfl rfl rfl rfl rfl rfl rfl (Nat.le_of_ble_eq_true rfl) (fun _ q => by cases q) (r_free hs (show gcM M1 (frN M L) s 32 s = nI n from hn1)) ?_
            rw [gcM_yes hF hn1 hn4]
            refine R_iinc (lv' := [(2, _), (1, _), (0, _)]) rfl rfl (by exact nI_1 _) rfl ?_
            refine R_goto (pc' := 45) rfl rfl ?_
            exact nx
theorem eqm.tr {M M1 M2 : Mem} (h : eqm M M1) (h1 : eqm M1 M2) : eqm M M2 := fun k j hk => (h1 k j hk).trans (h k j hk)
theorem eqm.rf (M : Mem) : eqm M M := fun _ _ _ => rfl
theorem eqm.sy {M M1 : Mem} (h : eqm M M1) : eqm M1 M := fun k j hk => (h k j hk).symm
theorem rchR_eqm {M M1 : Mem} {p f : Nat} {lm : Nat → Nat} {b : Prop} (h : eqm M M1) (i : Nat) : rchR M1 p f lm b i ↔ rchR M p f lm b i := by
  have e : ∀ k j, (k < 37 ∨ 39 < k) → M1 k j = M k j := h
  have hN : ∀ n i, rchN M1 p f lm b n i ↔ rchN M p f lm b n i := by
    intro n
    induction n with
    | zero =>
      intro i
      unfold rchN rootR
      simp only [e 12 _ (by omega), e 13 _ (by omega), e 17 _ (by omega), e 18 _ (by omega), e 20 _ (by omega), e 21 _ (by omega), e 23 _ (by omega), e 24 _ (by omega), e 25 _ (by omega), e 29 _ (by omega), e 30 _ (by omega)]
    | succ n ih =>
      intro i
      unfold rchN edgeR
      simp only [ih, e 31 _ (by omega), e 32 _ (by omega), e 35 _ (by omega), e 36 _ (by omega)]
  unfold rchR
  simp only [hN]
theorem hdY_eqm {M M1 : Mem} (h : eqm M M1) (L : List Nat) : hdY M1 L = hdY M L := by
  have e : ∀ k j, (k < 37 ∨ 39 < k) → M1 k j = M k j := h
  funext i
  unfold hdY szM
  simp only [e 29 _ (by omega), e 30 _ (by omega), e 32 _ (by omega)]
theorem minM_eqm {M M1 : Mem} (h : eqm M M1) (L : List Nat) (x : Int32) : eqm (minM M L x) (minM M1 L x) := by
  have e : ∀ k j, (k < 37 ∨ 39 < k) → M1 k j = M k j := h
  have hf : frN M1 L = frN M L := by
    funext i
    unfold frN
    rw [e 29 i (by omega), e 30 i (by omega)]
  have hg : eqm (gcM M (frN M L) 1500) (gcM M1 (frN M1 L) 1500) := by
    rw [hf]
    exact gcM_eqm h 1500
  intro k j hk
  unfold minM
  rw [hg 42 0 (by omega), hg 41 0 (by omega), e 44 0 (by omega)]
  have eo : ∀ k j, (k < 37 ∨ 39 < k) → oldM (gcM M1 (frN M1 L) 1500) 1500 k j = oldM (gcM M (frN M L) 1500) 1500 k j := fun k j hk => by
    unfold oldM
    by_cases h30 : k = 30
    · subst h30
      simp only [if_true]
      rw [hg 29 j (by omega), hg 30 j (by omega)]
    · rw [if_neg h30, if_neg h30]
      exact hg k j hk
  unfold up2 upd
  by_cases h44 : k = 44
  · subst h44
    simp only [if_true]
    by_cases hj : j = 0
    · simp [hj]
    · simp [hj]
      exact eo 44 j (by omega)
  · by_cases h46 : k = 46
    · subst h46
      simp only [if_true]
      by_cases hj : j = 0
      · simp [hj]
      · simp [hj]
        exact eo 46 j (by omega)
    · by_cases h41 : k = 41
      · subst h41
        simp only [if_true]
        by_cases hj : j = 0
        · simp [hj]
        · simp [hj]
          exact eo 41 j (by omega)
      · by_cases h42 : k = 42
        · subst h42
          simp only [if_true]
          by_cases hj : j = 0
          · simp [hj]
          · simp [hj]
            exact eo 42 j (by omega)
        · simp only [h44, h46, h41, h42, if_false]
          exact eo k j hk
/-- behind a MAJOR that has found L -/
def majM (M : Mem) (L : List Nat) : Mem := up2 (gcM M (frJ M L) 1500) 45 0 (M 45 0 + 1)
theorem wfR_maj {M : Mem} {p f : Nat} {lm : Nat → Nat} (L : List Nat) (hw : wfR M p f lm) : wfR (majM M L) p f lm := hw
/-- L is what can be come to -/
def isR (M : Mem) (p f : Nat) (lm : Nat → Nat) (b : Int32) (L : List Nat) : Prop := ∀ i, i < 1500 → (i ∈ L ↔ rchR M p f lm (b = 1) i)
def hel (M : Mem) (L : List Nat) : Int32 := nI (sumN (hdY M L) 1500)
/-- what a MINOR comes to -/
def minR (M : Mem) (p f : Nat) (lm : Nat → Nat) (v : Option Value) (M2 : Mem) : Prop :=
  (∃ L, isR M p f lm 1 L ∧ ¬ M 1 0 - M 42 0 < hel M L ∧ v = some (.int 1) ∧ eqm (minM M L (hel M L)) M2) ∨
  (∃ L L0 L2, isR M p f lm 1 L ∧ M 1 0 - M 42 0 < hel M L ∧ isR M p f lm 0 L0 ∧ isR (majM M L0) p f lm 1 L2 ∧
    ((¬ (majM M L0) 1 0 - (majM M L0) 42 0 < hel (majM M L0) L2 ∧ v = some (.int 1) ∧ eqm (minM (majM M L0) L2 (hel (majM M L0) L2)) M2) ∨
     ((majM M L0) 1 0 - (majM M L0) 42 0 < hel (majM M L0) L2 ∧ v = some (.int 0) ∧ eqm (majM M L0) M2)))
theorem r_minor {d : Nat} {M : Mem} {p f : Nat} {lm : Nat → Nat} (hw : wfR M p f lm) : CQ (d + 4) j_X9_minor [.ref 0] M (minR M p f lm) := by
  refine CQ_of (md := md_X9_minor) (d := d + 3) rfl (Nat.le_of_ble_eq_true rfl) ?_
  show WR (CalR (d + 3)) t_X9_minor 9 (some .boolean) _ 0 [(0, .ref 0)] [] _
  refine R_aload_n rfl rfl ?_
  refine R_vq rfl rfl rfl rfl rfl rfl rfl (Nat.le_of_ble_eq_true rfl) (r_heldCells hw) ?_
  rintro v M1 ⟨L, hmk, hL, rfl⟩
  have heq : eqm M M1 := hmk.1
  refine R_istore_n (lv' := [(1, _), (0, _)]) rfl rfl ?_
  refine R_aload_n rfl rfl ?_
  refine R_getI rfl rfl (Or.inl rfl) ?_
  refine R_aload_n rfl rfl ?_
  refine R_getI rfl rfl (Or.inl rfl) ?_
  refine R_isub rfl ?_
  refine R_iload_n rfl rfl ?_
  refine R_icmp (pc' := 43) rfl rfl (fun hc => ?_) (fun hc => ?_)
  · have hno : ¬ M 1 0 - M 42 0 < hel M L := by
      have h1 : nI (sumN (hdY M L) 1500) ≤ M1 1 0 - M1 42 0 := hc
      rw [heq 1 0 (by omega), heq 42 0 (by omega)] at h1
      exact Int32.not_lt.mpr h1
    exact r_minorE (x2 := .null) hw hmk _ (fun M2 h2 => Or.inl ⟨L, hL, hno, rfl, h2⟩)
  · have hyes : M 1 0 - M 42 0 < hel M L := by
      have h1 : ¬ nI (sumN (hdY M L) 1500) ≤ M1 1 0 - M1 42 0 := hc
      rw [heq 1 0 (by omega), heq 42 0 (by omega)] at h1
      exact Int32.not_le.mp h1
    refine R_aload_n rfl rfl ?_
    refine R_vq rfl rfl rfl rfl rfl rfl rfl (Nat.le_of_ble_eq_true rfl) (r_major (wfR_eqm heq hw)) ?_
    rintro v M2 ⟨L0, hL0, rfl, he2⟩
    have hL0' : isR M p f lm 0 L0 := fun i hi => (hL0 i hi).trans (rchR_eqm heq i)
    have hmj : eqm (majM M L0) M2 := by
      refine eqm.tr ?_ he2
      intro k j hk
      have hf : frJ M1 L0 = frJ M L0 := by
        funext i
        unfold frJ
        rw [heq 29 i (by omega)]
      unfold majM up2
      rw [hf, heq 45 0 (by omega)]
      by_cases h45 : k = 45
      · subst h45
        simp only [if_true]
        unfold upd
        by_cases hj : j = 0
        · simp [hj]
        · simp [hj]
          exact gcM_eqm heq 1500 45 j (by omega)
      · rw [if_neg h45, if_neg h45]
        exact gcM_eqm heq 1500 k j hk
    have hw2 : wfR M2 p f lm := wfR_eqm hmj (wfR_maj L0 hw)
    refine R_istore_n (lv' := [(2, _), (1, _), (0, _)]) rfl rfl ?_
    refine R_aload_n rfl rfl ?_
    refine R_vq rfl rfl rfl rfl rfl rfl rfl (Nat.le_of_ble_eq_true rfl) (r_heldCells hw2) ?_
    rintro v M3 ⟨L2, hmk2, hL2, rfl⟩
    have hL2' : isR (majM M L0) p f lm 1 L2 := fun i hi => (hL2 i hi).trans (rchR_eqm hmj i)
    have heq3 : eqm M2 M3 := hmk2.1
    have hh : nI (sumN (hdY M2 L2) 1500) = hel (majM M L0) L2 := by
      unfold hel
      rw [hdY_eqm hmj]
    refine R_istore_n (lv' := [(1, _), (2, _), (0, _)]) rfl rfl ?_
    refine R_aload_n rfl rfl ?_
    refine R_getI rfl rfl (Or.inl rfl) ?_
    refine R_aload_n rfl rfl ?_
    refine R_getI rfl rfl (Or.inl rfl) ?_
    refine R_isub rfl ?_
    refine R_iload_n rfl rfl ?_
    have e1 : M3 1 0 = (majM M L0) 1 0 := (heq3 1 0 (by omega)).trans (hmj 1 0 (by omega))
    have e2 : M3 42 0 = (majM M L0) 42 0 := (heq3 42 0 (by omega)).trans (hmj 42 0 (by omega))
    refine R_icmp (pc' := 43) rfl rfl (fun hc => ?_) (fun hc => ?_)
    · have hno : ¬ (majM M L0) 1 0 - (majM M L0) 42 0 < hel (majM M L0) L2 := by
        have h1 : nI (sumN (hdY M2 L2) 1500) ≤ M3 1 0 - M3 42 0 := hc
        rw [e1, e2, hh] at h1
        exact Int32.not_lt.mpr h1
      rw [hh]
      refine R_sub [0, 2] rfl rfl rfl ?_
      refine r_minorE (x2 := .null) hw2 hmk2 _ (fun M4 h4 => Or.inr ⟨L, L0, L2, hL, hyes, hL0', hL2', Or.inl ⟨hno, rfl, (minM_eqm hmj L2 _).tr h4⟩⟩)
    · have hyes2 : (majM M L0) 1 0 - (majM M L0) 42 0 < hel (majM M L0) L2 := by
        have h1 : ¬ nI (sumN (hdY M2 L2) 1500) ≤ M3 1 0 - M3 42 0 := hc
        rw [e1, e2, hh] at h1
        exact Int32.not_le.mp h1
      refine R_iconst (y := nI 0) rfl (by decide) ?_
      exact R_iret rfl rfl (Or.inl rfl) (Or.inr ⟨L, L0, L2, hL, hyes, hL0', hL2', Or.inr ⟨hyes2, rfl, hmj.tr heq3⟩⟩)
end
section
/-! ===== the reference: greatHas, make, widen ===== -/
def ghR (M : Mem) (p f : Nat) (lm : Nat → Nat) (x : Int32) (v : Option Value) (M2 : Mem) : Prop :=
  (¬ M 1 0 - M 42 0 < x ∧ v = some (.int 1) ∧ eqm M M2) ∨ (M 1 0 - M 42 0 < x ∧ ∃ L0, isR M p f lm 0 L0 ∧ eqm (majM M L0) M2 ∧ ((¬ (majM M L0) 1 0 - (majM M L0) 42 0 < x ∧ v = some (.int 1)) ∨ ((majM M L0) 1 0 - (majM M L0) 42 0 < x ∧ v = some (.int 0))))
theorem r_greatHas {d : Nat} {M : Mem} {p f : Nat} {lm : Nat → Nat} {x : Int32} (hw : wfR M p f lm) : CQ (d + 4) j_X9_greatHas [.ref 0, .int x] M (ghR M p f lm x) := by
  refine CQ_of (md := md_X9_greatHas) (d := d + 3) rfl (Nat.le_of_ble_eq_true rfl) ?_
  show WR (CalR (d + 3)) t_X9_greatHas 9 (some .boolean) _ 0 [(0, .ref 0), (1, .int x)] [] _
  refine R_aload_n rfl rfl ?_
  refine R_getI rfl rfl (Or.inl rfl) ?_
  refine R_aload_n rfl rfl ?_
  refine R_getI rfl rfl (Or.inl rfl) ?_
  refine R_isub rfl ?_
  refine R_iload_n rfl rfl ?_
  refine R_icmp (pc' := 15) rfl rfl (fun hc => ?_) (fun hc => ?_)
  · refine R_aload_n rfl rfl ?_
    refine R_vq rfl rfl rfl rfl rfl rfl rfl (Nat.le_of_ble_eq_true rfl) (r_major hw) ?_
    rintro v M2 ⟨L0, hL0, rfl, he2⟩
    refine R_istore_n (lv' := [(2, _), (0, _), (1, _)]) rfl rfl ?_
    refine R_aload_n rfl rfl ?_
    refine R_getI rfl rfl (Or.inl rfl) ?_
    refine R_aload_n rfl rfl ?_
    refine R_getI rfl rfl (Or.inl rfl) ?_
    refine R_isub rfl ?_
    refine R_iload_n rfl rfl ?_
    have hmj : eqm (majM M L0) M2 := he2
    have h0 := hc
    refine R_icmp (pc' := 37) rfl rfl (fun hc => ?_) (fun hc => ?_)
    · refine R_iconst (y := nI 0) rfl (by decide) ?_
      have h2 : M2 1 0 - M2 42 0 < x := hc
      rw [hmj 1 0 (by omega), hmj 42 0 (by omega)] at h2
      exact R_iret rfl rfl (Or.inl rfl) (Or.inr ⟨h0, L0, hL0, hmj, Or.inr ⟨h2, rfl⟩⟩)
    · refine R_iconst (y := nI 1) rfl (by decide) ?_
      refine R_goto (pc' := 38) rfl rfl ?_
      have h2 : ¬ M2 1 0 - M2 42 0 < x := hc
      rw [hmj 1 0 (by omega), hmj 42 0 (by omega)] at h2
      exact R_iret rfl rfl (Or.inr rfl) (Or.inr ⟨h0, L0, hL0, hmj, Or.inl ⟨h2, rfl⟩⟩)
  · refine R_iconst (y := nI 1) rfl (by decide) ?_
    exact R_iret rfl rfl (Or.inr rfl) (Or.inl ⟨hc, rfl, eqm.rf M⟩)
theorem wfR_min {M : Mem} {p f : Nat} {lm : Nat → Nat} (L : List Nat) (x : Int32) (hw : wfR M p f lm) : wfR (minM M L x) p f lm := hw
theorem maj29 {M : Mem} {L : List Nat} {i : Nat} (h : ¬ 0 < M 29 i) : ¬ 0 < majM M L 29 i := by
  show ¬ 0 < (if i < 1500 ∧ frJ M L i = true then (0 : Int32) else M 29 i)
  split
  · decide
  · exact h
theorem min29 {M : Mem} {L : List Nat} {x : Int32} {i : Nat} (h : ¬ 0 < M 29 i) : ¬ 0 < minM M L x 29 i := by
  show ¬ 0 < (if i < 1500 ∧ frN M L i = true then (0 : Int32) else M 29 i)
  split
  · decide
  · exact h
theorem minR_wf {M M2 : Mem} {p f : Nat} {lm : Nat → Nat} {v : Option Value} (hw : wfR M p f lm) (h : minR M p f lm v M2) : wfR M2 p f lm ∧ ∀ i, ¬ 0 < M 29 i → ¬ 0 < M2 29 i := by
  rcases h with ⟨L, -, -, -, he⟩ | ⟨L, L0, L2, -, -, -, -, ⟨-, -, he⟩ | ⟨-, -, he⟩⟩
  · exact ⟨wfR_eqm he (wfR_min L _ hw), fun i hi => by rw [he 29 i (by omega)]; exact min29 hi⟩
  · exact ⟨wfR_eqm he (wfR_min L2 _ (wfR_maj L0 hw)), fun i hi => by rw [he 29 i (by omega)]; exact min29 (maj29 hi)⟩
  · exact ⟨wfR_eqm he (wfR_maj L0 hw), fun i hi => by rw [he 29 i (by omega)]; exact maj29 hi⟩
theorem ghR_wf {M M2 : Mem} {p f : Nat} {lm : Nat → Nat} {x : Int32} {v : Option Value} (hw : wfR M p f lm) (h : ghR M p f lm x v M2) : wfR M2 p f lm ∧ ∀ i, ¬ 0 < M 29 i → ¬ 0 < M2 29 i := by
  rcases h with ⟨-, -, he⟩ | ⟨-, L0, -, he, -⟩
  · exact ⟨wfR_eqm he hw, fun i hi => by rw [he 29 i (by omega)]; exact hi⟩
  · exact ⟨wfR_eqm he (wfR_maj L0 hw), fun i hi => by rw [he 29 i (by omega)]; exact maj29 hi⟩
/-- a new object at the place i -/
def newM (M : Mem) (i : Nat) (o x : Int32) : Mem := up2 (up2 (up2 (up2 (up2 (up2 (up2 M 40 0 (M 40 0 + 1)) 29 i (M 40 0 + 1)) 30 i o) 31 i (-1)) 32 i 0) 33 i 0) (if o = 0 then 41 else 42) 0 (if o = 0 then M 41 0 + x else M 42 0 + x)
/-- the least place that is free -/
def lstF (M : Mem) (i : Nat) : Prop := i < 1500 ∧ ¬ 0 < M 29 i ∧ ∀ j, j < i → 0 < M 29 j
/-- what make comes to -/
def mkR (M : Mem) (p f : Nat) (lm : Nat → Nat) (x : Int32) (v : Option Value) (M2 : Mem) : Prop :=
  (M 0 0 - M 41 0 < x ∧ minR M p f lm (some (.int 0)) M2 ∧ v = some (.int (-1))) ∨
  ∃ M1, ((¬ M 0 0 - M 41 0 < x ∧ M1 = M) ∨ (M 0 0 - M 41 0 < x ∧ minR M p f lm (some (.int 1)) M1)) ∧
    ((¬ M1 0 0 - M1 41 0 < x ∧ ∃ i, lstF M1 i ∧ v = some (.int (nI i)) ∧ M2 = newM M1 i 0 x) ∨
     (M1 0 0 - M1 41 0 < x ∧ ((ghR M1 p f lm x (some (.int 0)) M2 ∧ v = some (.int (-1))) ∨ ∃ M3 i, ghR M1 p f lm x (some (.int 1)) M3 ∧ lstF M3 i ∧ v = some (.int (nI i)) ∧ M2 = newM M3 i 1 x)))
theorem r_makeE {d : Nat} {M : Mem} {o x : Int32} (ho : o = 0 ∨ o = 1) (hf : ∃ i, i < 1500 ∧ ¬ 0 < M 29 i) (Q : Option Value → Mem → Prop) (hQ : ∀ i, lstF M i → Q (some (.int (nI i))) (newM M i o x)) : WR (CalR d) t_X9_make 9 (some .int) Q 55 [(2, .int o), (0, .ref 0), (1, .int x)] [] M := by
  refine R_iconst (y := nI 0) rfl (by decide) ?_
  refine R_istore_n (lv' := [(3, _), (2, _), (0, _), (1, _)]) rfl rfl ?_
  obtain ⟨i0, ⟨hi0, hfr⟩, hlt⟩ := pk_least (fun i => i < 1500 ∧ ¬ 0 < M 29 i) hf
  have hall : ∀ j, j < i0 → 0 < M 29 j := fun j hj => Classical.byContradiction (fun q => hlt j hj ⟨by omega, q⟩)
  refine dn_up (P := fun s => WR (CalR d) t_X9_make 9 (some .int) Q 57 [(3, .int (nI s)), (2, .int o), (0, .ref 0), (1, .int x)] [] M) (N := i0) ?_ ?_ 0 (Nat.zero_le _)
  · refine R_aload_n rfl rfl ?_
    refine R_getA rfl rfl (Or.inl rfl) ?_
    refine R_iload_n rfl rfl ?_
    refine R_iald rfl rfl rfl (show _ < 1500 from hi0) ?_
    refine R_if (pc' := 72) rfl rfl (fun hc => ?_) (fun hc => ?_)
    · have hq := hQ i0 ⟨hi0, hfr, hall⟩
      unfold newM at hq
      refine R_aload_n rfl rfl ?_
      refine R_dup rfl ?_
      refine R_getI rfl rfl (Or.inl rfl) ?_
      refine R_iconst (y := nI 1) rfl (by decide) ?_
      refine R_iadd rfl ?_
      refine R_put rfl rfl rfl ?_
      refine R_aload_n rfl rfl ?_
      refine R_getA rfl rfl (Or.inl rfl) ?_
      refine R_iload_n rfl rfl ?_
      refine R_aload_n rfl rfl ?_
      refine R_getI rfl rfl (Or.inl rfl) ?_
      refine R_iast rfl rfl rfl (show _ < 1500 from hi0) ?_
      refine R_aload_n rfl rfl ?_
      refine R_getA rfl rfl (Or.inr rfl) ?_
      refine R_iload_n rfl rfl ?_
      refine R_iload_n rfl rfl ?_
      refine R_bast rfl rfl rfl (show _ < 1500 from by omega) (by first | exact Or.inl rfl | exact Or.inr rfl | assumption) ?_
      refine R_aload_n rfl rfl ?_
      refine R_getA rfl rfl (Or.inl rfl) ?_
      refine R_iload_n rfl rfl ?_
      refine R_iconst (y := (-1)) rfl (by decide) ?_
      refine R_iast rfl rfl rfl (show _ < 1500 from by omega) ?_
      refine R_aload_n rfl rfl ?_
      refine R_getA rfl rfl (Or.inl rfl) ?_
      refine R_iload_n rfl rfl ?_
      refine R_iconst (y := nI 0) rfl (by decide) ?_
      refine R_iast rfl rfl rfl (show _ < 1500 from by omega) ?_
      refine R_aload_n rfl rfl ?_
      refine R_getA rfl rfl (Or.inl rfl) ?_
      refine R_iload_n rfl rfl ?_
      refine R_iconst (y := nI 0) rfl (by decide) ?_
      refine R_iast rfl rfl rfl (show _ < 1500 from by omega) ?_
      refine R_iload_n rfl rfl ?_
      refine R_if (pc' := 137) rfl rfl (fun hc => ?_) (fun hc => ?_)
      · rw [if_pos (show o = 0 from hc), if_pos (show o = 0 from hc)] at hq
        refine R_aload_n rfl rfl ?_
        refine R_aload_n rfl rfl ?_
        refine R_getI rfl rfl (Or.inl rfl) ?_
        refine R_iload_n rfl rfl ?_
        refine R_iadd rfl ?_
        refine R_put rfl rfl rfl ?_
        refine R_iload_n rfl rfl ?_
        exact R_iret rfl rfl trivial hq
      · rw [if_neg (show ¬ o = 0 from hc), if_neg (show ¬ o = 0 from hc)] at hq
        refine R_aload_n rfl rfl ?_
        refine R_aload_n rfl rfl ?_
        refine R_getI rfl rfl (Or.inl rfl) ?_
        refine R_iload_n rfl rfl ?_
        refine R_iadd rfl ?_
        refine R_put rfl rfl rfl ?_
        refine R_goto (pc' := 147) rfl rfl ?_
        refine R_iload_n rfl rfl ?_
        exact R_iret rfl rfl trivial hq
    · exact absurd (Int32.not_le.mp hc) hfr
  · intro s hs nx
    refine R_aload_n rfl rfl ?_
    refine R_getA rfl rfl (Or.inl rfl) ?_
    refine R_iload_n rfl rfl ?_
    refine R_iald rfl rfl rfl (show _ < 1500 from by omega) ?_
    refine R_if (pc' := 72) rfl rfl (fun hc => ?_) (fun hc => ?_)
    · exact absurd (hall s hs) (Int32.not_lt.mpr hc)
    · refine R_iinc (lv' := [(3, _), (2, _), (0, _), (1, _)]) rfl rfl (by exact nI_1 _) rfl ?_
      refine R_goto (pc' := 57) rfl rfl ?_
      exact nx
theorem r_make {d : Nat} {M : Mem} {p f : Nat} {lm : Nat → Nat} {x : Int32} (hw : wfR M p f lm) (hf : ∃ i, i < 1500 ∧ ¬ 0 < M 29 i) : CQ (d + 5) j_X9_make [.ref 0, .int x] M (mkR M p f lm x) := by
  refine CQ_of (md := md_X9_make) (d := d + 4) rfl (Nat.le_of_ble_eq_true rfl) ?_
  show WR (CalR (d + 4)) t_X9_make 9 (some .int) _ 0 [(0, .ref 0), (1, .int x)] [] _
  obtain ⟨i0, hi0, hfr⟩ := hf
  have rest : ∀ M1 : Mem, wfR M1 p f lm → ¬ 0 < M1 29 i0 → ((¬ M 0 0 - M 41 0 < x ∧ M1 = M) ∨ (M 0 0 - M 41 0 < x ∧ minR M p f lm (some (.int 1)) M1)) → WR (CalR (d + 4)) t_X9_make 9 (some .int) (mkR M p f lm x) 22 [(0, .ref 0), (1, .int x)] [] M1 := by
    intro M1 hw1 hf1 hcase
    refine R_aload_n rfl rfl ?_
    refine R_getI rfl rfl (Or.inl rfl) ?_
    refine R_aload_n rfl rfl ?_
    refine R_getI rfl rfl (Or.inl rfl) ?_
    refine R_isub rfl ?_
    refine R_iload_n rfl rfl ?_
    refine R_icmp (pc' := 39) rfl rfl (fun hc => ?_) (fun hc => ?_)
    · have hno : ¬ M1 0 0 - M1 41 0 < x := Int32.not_lt.mpr hc
      refine R_iconst (y := nI 0) rfl (by decide) ?_
      refine R_istore_n (lv' := [(2, _), (0, _), (1, _)]) rfl rfl ?_
      refine R_iload_n rfl rfl ?_
      refine R_if (pc' := 55) rfl rfl (fun hc => ?_) (fun hc => absurd nI_0 hc)
      exact r_makeE (Or.inl rfl) ⟨i0, hi0, hf1⟩ _ (fun i hi => Or.inr ⟨M1, hcase, Or.inl ⟨hno, i, hi, rfl, rfl⟩⟩)
    · have hyes : M1 0 0 - M1 41 0 < x := Int32.not_le.mp hc
      refine R_iconst (y := nI 1) rfl (by decide) ?_
      refine R_goto (pc' := 40) rfl rfl ?_
      refine R_istore_n (lv' := [(2, _), (0, _), (1, _)]) rfl rfl ?_
      refine R_iload_n rfl rfl ?_
      refine R_if (pc' := 55) rfl rfl (fun hc => absurd hc (show ¬ (1 : Int32) = 0 by decide)) (fun hc => ?_)
      refine R_aload_n rfl rfl ?_
      refine R_iload_n rfl rfl ?_
      refine R_vq rfl rfl rfl rfl rfl rfl rfl (Nat.le_of_ble_eq_true rfl) (r_greatHas hw1) ?_
      intro v M3 hg
      have hv : v = some (.int 1) ∨ v = some (.int 0) := by
        rcases hg with ⟨-, h, -⟩ | ⟨-, L0, -, -, ⟨-, h⟩ | ⟨-, h⟩⟩
        · exact Or.inl h
        · exact Or.inl h
        · exact Or.inr h
      rcases hv with rfl | rfl
      · refine R_if (pc' := 55) rfl rfl (fun hc => ?_) (fun hc => absurd (show ¬ (1 : Int32) = 0 by decide) hc)
        exact r_makeE (Or.inr rfl) ⟨i0, hi0, (ghR_wf hw1 hg).2 i0 hf1⟩ _ (fun i hi => Or.inr ⟨M1, hcase, Or.inr ⟨hyes, Or.inr ⟨M3, i, hg, hi, rfl, rfl⟩⟩⟩)
      · refine R_if (pc' := 55) rfl rfl (fun hc => absurd rfl hc) (fun hc => ?_)
        refine R_iconst (y := (-1)) rfl (by decide) ?_
        exact R_iret rfl rfl trivial (Or.inr ⟨M1, hcase, Or.inr ⟨hyes, Or.inl ⟨hg, rfl⟩⟩⟩)
  refine R_aload_n rfl rfl ?_
  refine R_getI rfl rfl (Or.inl rfl) ?_
  refine R_aload_n rfl rfl ?_
  refine R_getI rfl rfl (Or.inl rfl) ?_
  refine R_isub rfl ?_
  refine R_iload_n rfl rfl ?_
  refine R_icmp (pc' := 22) rfl rfl (fun hc => ?_) (fun hc => ?_)
  · exact rest M hw hfr (Or.inl ⟨Int32.not_lt.mpr hc, rfl⟩)
  · have hyes : M 0 0 - M 41 0 < x := Int32.not_le.mp hc
    refine R_aload_n rfl rfl ?_
    refine R_vq rfl rfl rfl rfl rfl rfl rfl (Nat.le_of_ble_eq_true rfl) (r_minor hw) ?_
    intro v M1 hg
    have hv : v = some (.int 1) ∨ v = some (.int 0) := by
      rcases hg with ⟨L, -, -, h, -⟩ | ⟨L, L0, L2, -, -, -, -, ⟨-, h, -⟩ | ⟨-, h, -⟩⟩
      · exact Or.inl h
      · exact Or.inl h
      · exact Or.inr h
    rcases hv with rfl | rfl
    · refine R_if (pc' := 22) rfl rfl (fun hc => ?_) (fun hc => absurd (show ¬ (1 : Int32) = 0 by decide) hc)
      exact rest M1 (minR_wf hw hg).1 ((minR_wf hw hg).2 i0 hfr) (Or.inr ⟨hyes, hg⟩)
    · refine R_if (pc' := 22) rfl rfl (fun hc => absurd rfl hc) (fun hc => ?_)
      refine R_iconst (y := (-1)) rfl (by decide) ?_
      exact R_iret rfl rfl trivial (Or.inl ⟨hyes, hg, rfl⟩)
end
section
/-! ===== the reference: widen, ownSlot, find, isCalm, remembers, meet ===== -/
def wdR (M : Mem) (p f : Nat) (lm : Nat → Nat) (i : Nat) (v : Option Value) (M2 : Mem) : Prop :=
  ((M 30 i = 0 ∧ M 41 0 = M 0 0) ∧ minR M p f lm (some (.int 0)) M2 ∧ v = some (.int 0)) ∨
  ∃ M1, ((¬ (M 30 i = 0 ∧ M 41 0 = M 0 0) ∧ M1 = M) ∨ ((M 30 i = 0 ∧ M 41 0 = M 0 0) ∧ minR M p f lm (some (.int 1)) M1)) ∧
    ((M1 30 i = 0 ∧ M2 = up2 M1 41 0 (M1 41 0 + 1) ∧ v = some (.int 1)) ∨
     (¬ M1 30 i = 0 ∧ ((ghR M1 p f lm 1 (some (.int 0)) M2 ∧ v = some (.int 0)) ∨ ∃ M3, ghR M1 p f lm 1 (some (.int 1)) M3 ∧ M2 = up2 M3 42 0 (M3 42 0 + 1) ∧ v = some (.int 1))))
theorem minR_v {M M1 : Mem} {p f : Nat} {lm : Nat → Nat} {v : Option Value} (hg : minR M p f lm v M1) : v = some (.int 1) ∨ v = some (.int 0) := by
  rcases hg with ⟨L, -, -, h, -⟩ | ⟨L, L0, L2, -, -, -, -, ⟨-, h, -⟩ | ⟨-, h, -⟩⟩
  · exact Or.inl h
  · exact Or.inl h
  · exact Or.inr h
theorem ghR_v {M M1 : Mem} {p f : Nat} {lm : Nat → Nat} {x : Int32} {v : Option Value} (hg : ghR M p f lm x v M1) : v = some (.int 1) ∨ v = some (.int 0) := by
  rcases hg with ⟨-, h, -⟩ | ⟨-, L0, -, -, ⟨-, h⟩ | ⟨-, h⟩⟩
  · exact Or.inl h
  · exact Or.inl h
  · exact Or.inr h
theorem r_widen {d : Nat} {M : Mem} {p f : Nat} {lm : Nat → Nat} {i : Nat} (hw : wfR M p f lm) (hi : i < 1500) : CQ (d + 5) j_X9_widen [.ref 0, .int (nI i)] M (wdR M p f lm i) := by
  refine CQ_of (md := md_X9_widen) (d := d + 4) rfl (Nat.le_of_ble_eq_true rfl) ?_
  show WR (CalR (d + 4)) t_X9_widen 9 (some .boolean) _ 0 [(0, .ref 0), (1, .int (nI i))] [] _
  have rest : ∀ M1 : Mem, wfR M1 p f lm → ((¬ (M 30 i = 0 ∧ M 41 0 = M 0 0) ∧ M1 = M) ∨ ((M 30 i = 0 ∧ M 41 0 = M 0 0) ∧ minR M p f lm (some (.int 1)) M1)) → WR (CalR (d + 4)) t_X9_widen 9 (some .boolean) (wdR M p f lm i) 29 [(0, .ref 0), (1, .int (nI i))] [] M1 := by
    intro M1 hw1 hcase
    refine R_aload_n rfl rfl ?_
    refine R_getA rfl rfl (Or.inr rfl) ?_
    refine R_iload_n rfl rfl ?_
    refine R_bald rfl rfl rfl (show _ < 1500 from hi) ?_
    refine R_if (pc' := 50) rfl rfl (fun hc => ?_) (fun hc => ?_)
    · have ho : ¬ M1 30 i = 0 := hc
      refine R_aload_n rfl rfl ?_
      refine R_iconst (y := nI 1) rfl (by decide) ?_
      refine R_vq rfl rfl rfl rfl rfl rfl rfl (Nat.le_of_ble_eq_true rfl) (r_greatHas hw1) ?_
      intro v M3 hg
      rcases ghR_v hg with rfl | rfl
      · refine R_if (pc' := 60) rfl rfl (fun hc => ?_) (fun hc => absurd (show ¬ (1 : Int32) = 0 by decide) hc)
        refine R_aload_n rfl rfl ?_
        refine R_dup rfl ?_
        refine R_getI rfl rfl (Or.inl rfl) ?_
        refine R_iconst (y := nI 1) rfl (by decide) ?_
        refine R_iadd rfl ?_
        refine R_put rfl rfl rfl ?_
        refine R_iconst (y := nI 1) rfl (by decide) ?_
        exact R_iret rfl rfl (Or.inr rfl) (Or.inr ⟨M1, hcase, Or.inr ⟨ho, Or.inr ⟨M3, hg, rfl, rfl⟩⟩⟩)
      · refine R_if (pc' := 60) rfl rfl (fun hc => absurd rfl hc) (fun hc => ?_)
        refine R_iconst (y := nI 0) rfl (by decide) ?_
        exact R_iret rfl rfl (Or.inl rfl) (Or.inr ⟨M1, hcase, Or.inr ⟨ho, Or.inl ⟨hg, rfl⟩⟩⟩)
    · have ho : M1 30 i = 0 := Classical.byContradiction (fun q => hc q)
      refine R_aload_n rfl rfl ?_
      refine R_dup rfl ?_
      refine R_getI rfl rfl (Or.inl rfl) ?_
      refine R_iconst (y := nI 1) rfl (by decide) ?_
      refine R_iadd rfl ?_
      refine R_put rfl rfl rfl ?_
      refine R_iconst (y := nI 1) rfl (by decide) ?_
      exact R_iret rfl rfl (Or.inr rfl) (Or.inr ⟨M1, hcase, Or.inl ⟨ho, rfl, rfl⟩⟩)
  refine R_aload_n rfl rfl ?_
  refine R_getA rfl rfl (Or.inr rfl) ?_
  refine R_iload_n rfl rfl ?_
  refine R_bald rfl rfl rfl (show _ < 1500 from hi) ?_
  refine R_if (pc' := 29) rfl rfl (fun hc => ?_) (fun hc => ?_)
  · exact rest M hw (Or.inl ⟨fun q => hc q.1, rfl⟩)
  · have ho : M 30 i = 0 := Classical.byContradiction (fun q => hc q)
    refine R_aload_n rfl rfl ?_
    refine R_getI rfl rfl (Or.inl rfl) ?_
    refine R_aload_n rfl rfl ?_
    refine R_getI rfl rfl (Or.inl rfl) ?_
    refine R_icmp (pc' := 29) rfl rfl (fun hc => ?_) (fun hc => ?_)
    · exact rest M hw (Or.inl ⟨fun q => hc q.2, rfl⟩)
    · have hfull : M 41 0 = M 0 0 := Classical.byContradiction (fun q => hc q)
      refine R_aload_n rfl rfl ?_
      refine R_vq rfl rfl rfl rfl rfl rfl rfl (Nat.le_of_ble_eq_true rfl) (r_minor hw) ?_
      intro v M1 hg
      rcases minR_v hg with rfl | rfl
      · refine R_if (pc' := 29) rfl rfl (fun hc => ?_) (fun hc => absurd (show ¬ (1 : Int32) = 0 by decide) hc)
        exact rest M1 (minR_wf hw hg).1 (Or.inr ⟨⟨ho, hfull⟩, hg⟩)
      · refine R_if (pc' := 29) rfl rfl (fun hc => absurd rfl hc) (fun hc => ?_)
        refine R_iconst (y := nI 0) rfl (by decide) ?_
        exact R_iret rfl rfl (Or.inl rfl) (Or.inl ⟨⟨ho, hfull⟩, hg, rfl⟩)
/-- the least s below n of which p holds -/
def lst (p : Nat → Bool) : Nat → Option Nat
  | 0 => none
  | n + 1 => match lst p n with
    | some s => some s
    | none => if p n = true then some n else none
theorem lst_none {p : Nat → Bool} : ∀ {n : Nat}, lst p n = none ↔ ∀ s, s < n → p s = false
  | 0 => by simp [lst]
  | n + 1 => by
    unfold lst
    constructor
    · intro h s hs
      cases h1 : lst p n with
      | some q => rw [h1] at h; cases h
      | none =>
        rw [h1] at h
        by_cases hsn : s = n
        · subst hsn
          cases hp : p s with
          | true => simp [hp] at h
          | false => rfl
        · exact lst_none.mp h1 s (by omega)
    · intro h
      rw [lst_none.mpr (fun s hs => h s (by omega))]
      simp [h n (by omega)]
theorem lst_some {p : Nat → Bool} : ∀ {n s : Nat}, lst p n = some s ↔ s < n ∧ p s = true ∧ ∀ j, j < s → p j = false
  | 0, s => by simp [lst]
  | n + 1, s => by
    unfold lst
    cases h1 : lst p n with
    | some q =>
      obtain ⟨a1, a2, a3⟩ := lst_some.mp h1
      constructor
      · intro h
        cases h
        exact ⟨by omega, a2, a3⟩
      · rintro ⟨b1, b2, b3⟩
        have : s = q := by
          rcases Nat.lt_trichotomy s q with h | h | h
          · rw [a3 s h] at b2; cases b2
          · exact h
          · rw [b3 q h] at a2; cases a2
        rw [this]
    | none =>
      have hn := lst_none.mp h1
      constructor
      · intro h
        by_cases hp : p n = true
        · simp only [hp, if_true] at h
          cases h
          exact ⟨by omega, hp, fun j hj => hn j hj⟩
        · simp [hp] at h
      · rintro ⟨b1, b2, b3⟩
        have : s = n := by
          apply Classical.byContradiction
          intro hne
          rw [hn s (by omega)] at b2
          cases b2
        subst this
        simp [b2]
/-- the own slot of that name -/
def osl (M : Mem) (i : Nat) (x : Int32) : Option Nat := lst (fun s => decide (M 34 (40 * i + s) = x)) (M 32 i).toNatClampNeg
def oslV (M : Mem) (i : Nat) (x : Int32) : Int32 := match osl M i x with
  | some s => nI (40 * i + s)
  | none => -1
theorem r_ownSlot {d : Nat} {M : Mem} {i n : Nat} {x : Int32} (hi : i < 1500) (hn : M 32 i = nI n) (hn4 : n ≤ 40) : CalR (d + 1) j_X9_ownSlot [.ref 0, .int (nI i), .int x] M (some (.int (oslV M i x))) M := by
  have hN : (M 32 i).toNatClampNeg = n := by rw [hn, nI_clamp (by omega)]
  cases ho : osl M i x with
  | none =>
    have h1 : oslV M i x = -1 := by unfold oslV; rw [ho]
    rw [h1]
    unfold osl at ho
    rw [hN] at ho
    exact r_ownSlot_none hi hn hn4 (fun s hs => by simpa using lst_none.mp ho s hs)
  | some s0 =>
    have h1 : oslV M i x = nI (40 * i + s0) := by unfold oslV; rw [ho]
    rw [h1]
    unfold osl at ho
    rw [hN] at ho
    obtain ⟨a1, a2, a3⟩ := lst_some.mp ho
    have a2 : M 34 (40 * i + s0) = x := by simpa using a2
    refine CalR_of (md := md_X9_ownSlot) rfl (Nat.le_of_ble_eq_true rfl) ?_
    show WR (CalR d) t_X9_ownSlot 9 (some .int) _ 0 [(0, .ref 0), (1, .int (nI i)), (2, .int x)] [] _
    refine R_iconst (y := nI 0) rfl (by decide) ?_
    refine R_istore_n (lv' := [(3, _), (0, _), (1, _), (2, _)]) rfl rfl ?_
    refine dn_up (P := fun s => WR (CalR d) t_X9_ownSlot 9 (some .int) (fun v' M' => v' = some (.int (nI (40 * i + s0))) ∧ M' = M) 2 [(3, .int (nI s)), (0, .ref 0), (1, .int (nI i)), (2, .int x)] [] M) (N := s0) ?_ ?_ 0 (Nat.zero_le _)
    · refine R_iload_n rfl rfl ?_
      refine R_aload_n rfl rfl ?_
      refine R_getA rfl rfl (Or.inl rfl) ?_
      refine R_iload_n rfl rfl ?_
      refine R_iald rfl rfl rfl (show _ < 1500 from by omega) ?_
      try refine R_top (y := nI _) (by assumption) ?_
      refine R_icmp (pc' := 40) rfl rfl (fun hc => ?_) (fun hc => ?_)
      · exact (ge_no a1 (by omega) hc).elim
      · refine R_aload_n rfl rfl ?_
        refine R_getA rfl rfl (Or.inl rfl) ?_
        refine R_bipush (y := nI 40) rfl (by decide) ?_
        refine R_iload_n rfl rfl ?_
        first | refine R_imulN rfl ?_ | refine R_imul rfl ?_
        refine R_iload_n rfl rfl ?_
        first | refine R_iaddN rfl ?_ | refine R_iadd rfl ?_
        refine R_iald rfl rfl rfl (show _ < 60000 from by omega) ?_
        try refine R_top (y := nI _) (by assumption) ?_
        refine R_iload_n rfl rfl ?_
        refine R_icmp (pc' := 34) rfl rfl (fun hc => ?_) (fun hc => ?_)
        · exact absurd a2 hc
        · refine R_bipush (y := nI 40) rfl (by decide) ?_
          refine R_iload_n rfl rfl ?_
          first | refine R_imulN rfl ?_ | refine R_imul rfl ?_
          refine R_iload_n rfl rfl ?_
          first | refine R_iaddN rfl ?_ | refine R_iadd rfl ?_
          exact R_iret rfl rfl (by first | trivial | exact Or.inl rfl | exact Or.inr rfl | assumption) ⟨rfl, rfl⟩
    · intro s hs nx
      refine R_iload_n rfl rfl ?_
      refine R_aload_n rfl rfl ?_
      refine R_getA rfl rfl (Or.inl rfl) ?_
      refine R_iload_n rfl rfl ?_
      refine R_iald rfl rfl rfl (show _ < 1500 from by omega) ?_
      try refine R_top (y := nI _) (by assumption) ?_
      refine R_icmp (pc' := 40) rfl rfl (fun hc => ?_) (fun hc => ?_)
      · exact (ge_no (show s < n by omega) (by omega) hc).elim
      · refine R_aload_n rfl rfl ?_
        refine R_getA rfl rfl (Or.inl rfl) ?_
        refine R_bipush (y := nI 40) rfl (by decide) ?_
        refine R_iload_n rfl rfl ?_
        first | refine R_imulN rfl ?_ | refine R_imul rfl ?_
        refine R_iload_n rfl rfl ?_
        first | refine R_iaddN rfl ?_ | refine R_iadd rfl ?_
        refine R_iald rfl rfl rfl (show _ < 60000 from by omega) ?_
        try refine R_top (y := nI _) (by assumption) ?_
        refine R_iload_n rfl rfl ?_
        refine R_icmp (pc' := 34) rfl rfl (fun hc => ?_) (fun hc => ?_)
        · refine R_iinc (lv' := [(3, _), (0, _), (1, _), (2, _)]) rfl rfl (by exact nI_1 _) rfl ?_
          refine R_goto (pc' := 2) rfl rfl ?_
          exact nx
        · have := a3 s hs
          simp only [decide_eq_false_iff_not] at this
          exact absurd this hc
/-- parents go down: none is met twice -/
def dwn (M : Mem) (lv : Nat → Prop) (rk : Nat → Nat) : Prop := ∀ i, lv i → i < 1500 ∧ (∃ n, n ≤ 40 ∧ M 32 i = nI n) ∧ (M 31 i = -1 ∨ ∃ j, lv j ∧ M 31 i = nI j ∧ rk j < rk i)
/-- where a name is found along a chain: the object, the slot -/
def fnd (M : Mem) (x : Int32) : Nat → Int32 → Option (Nat × Nat)
  | 0, _ => none
  | n + 1, c => if c < 0 then none else match osl M c.toNatClampNeg x with
    | some s => some (c.toNatClampNeg, s)
    | none => fnd M x n (M 31 c.toNatClampNeg)
def fndV : Option (Nat × Nat) → Int32
  | some q => nI (40 * q.1 + q.2)
  | none => -1
theorem r_findL {d : Nat} {M : Mem} {lv : Nat → Prop} {rk : Nat → Nat} {x : Int32} {k y : Value} (hd : dwn M lv rk) : ∀ (N : Nat) (c : Int32) (x5 : Value), (c = -1 ∨ ∃ i, lv i ∧ c = nI i ∧ rk i < N) → WR (CalR (d + 1)) t_X9_find 9 (some .int) (fun v' M' => v' = some (.int (fndV (fnd M x (N + 1) c))) ∧ M' = M) 8 [(4, .int c), (0, .ref 0), (1, k), (2, y), (3, .int x)] [] M := by
  intro N
  induction N with
  | zero =>
    intro c x5 hcs
    rcases hcs with rfl | ⟨i, -, -, h⟩
    · refine R_iload rfl rfl ?_
      refine R_if (pc' := 42) rfl rfl (fun hc => ?_) (fun hc => ?_)
      · refine R_iconst (y := (-1)) rfl (by decide) ?_
        exact R_iret rfl rfl (by first | trivial | exact Or.inl rfl | exact Or.inr rfl | assumption) ⟨rfl, rfl⟩
      · exact absurd (show (-1 : Int32) < 0 by decide) hc
    · omega
  | succ N ih =>
    intro c x5 hcs
    rcases hcs with rfl | ⟨i, hi, rfl, hrk⟩
    · refine R_iload rfl rfl ?_
      refine R_if (pc' := 42) rfl rfl (fun hc => ?_) (fun hc => ?_)
      · refine R_iconst (y := (-1)) rfl (by decide) ?_
        exact R_iret rfl rfl (by first | trivial | exact Or.inl rfl | exact Or.inr rfl | assumption) ⟨rfl, rfl⟩
      · exact absurd (show (-1 : Int32) < 0 by decide) hc
    · obtain ⟨hi15, ⟨n, hn4, hn⟩, hpar⟩ := hd i hi
      have hcl : (nI i).toNatClampNeg = i := nI_clamp (by omega)
      have hnn : ¬ nI i < 0 := nI_pos (by omega)
      refine R_iload rfl rfl ?_
      refine R_if (pc' := 42) rfl rfl (fun hc => ?_) (fun hc => ?_)
      · exact absurd hc hnn
      · refine R_aload_n rfl rfl ?_
        refine R_iload rfl rfl ?_
        refine R_iload_n rfl rfl ?_
        refine R_virt rfl rfl rfl rfl rfl rfl rfl (Nat.le_of_ble_eq_true rfl) (fun _ q => by cases q) (r_ownSlot hi15 hn hn4) ?_
        cases ho : osl M i x with
        | some s =>
          have hs4 : s < 40 := by
            unfold osl at ho
            have := (lst_some.mp ho).1
            rw [hn, nI_clamp (by omega)] at this
            omega
          have hv : oslV M i x = nI (40 * i + s) := by unfold oslV; rw [ho]
          have hf : fnd M x (N + 1 + 1) (nI i) = some (i, s) := by
            rw [fnd, if_neg hnn, hcl, ho]
          rw [hf]
          refine R_top hv ?_
          refine R_istore (lv' := [(5, _), (4, _), (0, _), (1, _), (2, _), (3, _)]) rfl rfl ?_
          refine R_iload rfl rfl ?_
          refine R_if (pc' := 30) rfl rfl (fun hc => ?_) (fun hc => ?_)
          · exact absurd hc (nI_pos (by omega))
          · refine R_iload rfl rfl ?_
            exact R_iret rfl rfl trivial ⟨rfl, rfl⟩
        | none =>
          have hv : oslV M i x = -1 := by unfold oslV; rw [ho]
          have hf : fnd M x (N + 1 + 1) (nI i) = fnd M x (N + 1) (M 31 i) := by
            rw [fnd, if_neg hnn, hcl, ho]
          rw [hf]
          refine R_top hv ?_
          refine R_istore (lv' := [(5, _), (4, _), (0, _), (1, _), (2, _), (3, _)]) rfl rfl ?_
          refine R_iload rfl rfl ?_
          refine R_if (pc' := 30) rfl rfl (fun hc => ?_) (fun hc => ?_)
          · refine R_aload_n rfl rfl ?_
            refine R_getA rfl rfl (Or.inl rfl) ?_
            refine R_iload rfl rfl ?_
            refine R_iald rfl rfl rfl (show _ < 1500 from hi15) ?_
            refine R_istore (lv' := [(4, _), (5, _), (0, _), (1, _), (2, _), (3, _)]) rfl rfl ?_
            refine R_goto (pc' := 8) rfl rfl ?_
            refine R_sub [0, 2, 3, 4, 5] rfl rfl rfl ?_
            refine ih (M 31 i) .null ?_
            rcases hpar with h | ⟨j, h1, h2, h3⟩
            · exact Or.inl h
            · exact Or.inr ⟨j, h1, h2, by omega⟩
          · exact absurd (show (-1 : Int32) < 0 by decide) hc
/-- the first of a value's chain -/
def chn (M : Mem) (k : Nat) (y : Int32) : Int32 := if k = 2 then y else M 25 k
theorem r_find {d : Nat} {M : Mem} {lv : Nat → Prop} {rk : Nat → Nat} {x y : Int32} {k N : Nat} (hd : dwn M lv rk) (hk : k < 4) (hc : chn M k y = -1 ∨ ∃ i, lv i ∧ chn M k y = nI i ∧ rk i < N) : CalR (d + 2) j_X9_find [.ref 0, .int (nI k), .int y, .int x] M (some (.int (fndV (fnd M x (N + 1) (chn M k y))))) M := by
  refine CalR_of (md := md_X9_find) (d := d + 1) rfl (Nat.le_of_ble_eq_true rfl) ?_
  show WR (CalR (d + 1)) t_X9_find 9 (some .int) _ 0 [(0, .ref 0), (1, .int (nI k)), (2, .int y), (3, .int x)] [] _
  refine R_aload_n rfl rfl ?_
  refine R_iload_n rfl rfl ?_
  refine R_iload_n rfl rfl ?_
  have hch : CalR (d + 1) j_X9_chainOf [.ref 0, .int (nI k), .int y] M (some (.int (chn M k y))) M := by
    by_cases h2 : k = 2
    · subst h2
      exact r_chainOf2
    · unfold chn
      rw [if_neg h2]
      exact r_chainOf hk h2
  refine R_virt rfl rfl rfl rfl rfl rfl rfl (Nat.le_of_ble_eq_true rfl) (fun _ q => by cases q) (hch) ?_
  refine R_istore (lv' := [(4, _), (0, _), (1, _), (2, _), (3, _)]) rfl rfl ?_
  exact r_findL hd N _ .null hc
end
section
/-! ===== the reference: branches that are known, small operations ===== -/
def icN : ClassFile.Cond → Nat → Nat → Prop
  | .eq, x, y => x = y
  | .ne, x, y => ¬ x = y
  | .lt, x, y => x < y
  | .ge, x, y => y ≤ x
  | .gt, x, y => y < x
  | .le, x, y => x ≤ y
theorem ic_iff {c : ClassFile.Cond} {a b : Nat} (ha : a < 2 ^ 31) (hb : b < 2 ^ 31) : icc c (nI a) (nI b) ↔ icN c a b := by
  cases c
  · exact nI_eq ha hb
  · exact not_congr (nI_eq ha hb)
  · exact nI_ltI ha hb
  · exact nI_leI hb ha
  · exact nI_ltI hb ha
  · exact nI_leI ha hb
theorem ic_T {c : ClassFile.Cond} {a b : Nat} (ha : a < 2 ^ 31) (hb : b < 2 ^ 31) (h : icN c a b) : icc c (nI a) (nI b) := (ic_iff ha hb).mpr h
theorem ic_F {c : ClassFile.Cond} {a b : Nat} (ha : a < 2 ^ 31) (hb : b < 2 ^ 31) (h : ¬ icN c a b) : ¬ icc c (nI a) (nI b) := fun q => h ((ic_iff ha hb).mp q)
theorem ic_T0 {c : ClassFile.Cond} {a : Nat} (ha : a < 2 ^ 31) (h : icN c a 0) : icc c (nI a) 0 := nI_0 ▸ (ic_iff ha (by decide)).mpr h
theorem ic_F0 {c : ClassFile.Cond} {a : Nat} (ha : a < 2 ^ 31) (h : ¬ icN c a 0) : ¬ icc c (nI a) 0 := fun q => h ((ic_iff ha (by decide)).mp (nI_0 ▸ q))
def icb : ClassFile.Cond → Int32 → Int32 → Bool
  | .eq, x, y => decide (x = y)
  | .ne, x, y => decide (¬ x = y)
  | .lt, x, y => decide (x < y)
  | .ge, x, y => decide (y ≤ x)
  | .gt, x, y => decide (y < x)
  | .le, x, y => decide (x ≤ y)
theorem icb_iff {c : ClassFile.Cond} {x y : Int32} : icb c x y = true ↔ icc c x y := by
  cases c <;> simp [icb, icc]
theorem icT {c : ClassFile.Cond} {x y : Int32} (h : icb c x y = true) : icc c x y := icb_iff.mp h
theorem icF {c : ClassFile.Cond} {x y : Int32} (h : icb c x y = false) : ¬ icc c x y := fun q => by rw [icb_iff.mpr q] at h; cases h
section
variable {C : Rrel} {t : List (Nat × Instr × Nat)} {oc : Nat} {rt : Option FieldType} {Qr : Option Value → Mem → Prop} {pc : Nat} {lv : Lv} {r : List Value} {M : Mem} {len : Nat}
theorem R_ifT {c : ClassFile.Cond} {f : Int} {x : Int32} {pc' : Nat} (h : t.lookup pc = some (.ifCond c f, len)) (hp : jt pc f = pc') (hc : icc c x 0) (k1 : WR C t oc rt Qr pc' lv r M) : WR C t oc rt Qr pc lv (.int x :: r) M := R_if h hp (fun _ => k1) (fun q => absurd hc q)
theorem R_ifF {c : ClassFile.Cond} {f : Int} {x : Int32} (h : t.lookup pc = some (.ifCond c f, len)) (hc : ¬ icc c x 0) (k1 : WR C t oc rt Qr (pc + 3) lv r M) : WR C t oc rt Qr pc lv (.int x :: r) M := R_if h rfl (fun q => absurd q hc) (fun _ => k1)
theorem R_icT {c : ClassFile.Cond} {f : Int} {x y : Int32} {pc' : Nat} (h : t.lookup pc = some (.if_icmp c f, len)) (hp : jt pc f = pc') (hc : icc c x y) (k1 : WR C t oc rt Qr pc' lv r M) : WR C t oc rt Qr pc lv (.int y :: .int x :: r) M := R_icmp h hp (fun _ => k1) (fun q => absurd hc q)
theorem R_icF {c : ClassFile.Cond} {f : Int} {x y : Int32} (h : t.lookup pc = some (.if_icmp c f, len)) (hc : ¬ icc c x y) (k1 : WR C t oc rt Qr (pc + 3) lv r M) : WR C t oc rt Qr pc lv (.int y :: .int x :: r) M := R_icmp h rfl (fun q => absurd q hc) (fun _ => k1)
end
def welM (M : Mem) (x : Int32) (s : Nat) : Mem := up2 (up2 M 10 0 x) 11 0 (nI (s + 1))
theorem r_put5 {d : Nat} {M : Mem} {k x : Int32} (hp : M 14 0 = nI 1000) : CalR (d + 2) j_X9_put [.ref 0, .int k, .int x] M (some (.int (nI 5))) (up2 M 9 0 (nI 5)) := by
  refine CalR_of (md := md_X9_put) (d := d + 1) rfl (Nat.le_of_ble_eq_true rfl) ?_
  show WR (CalR (d + 1)) t_X9_put 9 (some .int) _ 0 [(0, .ref 0), (1, .int k), (2, .int x)] [] _
  refine R_aload_n rfl rfl ?_
  refine R_getI rfl rfl (Or.inl rfl) ?_
  try refine R_top (y := nI _) (by assumption) ?_
  refine R_sipush (y := nI 1000) rfl (by decide) ?_
  refine R_icF rfl (by first | assumption | exact icF (by decide) | exact ic_F (by omega) (by omega) (by simp only [icN]; omega) | exact ic_F0 (by omega) (by simp only [icN]; omega) | exact icF0 (by decide)) ?_
  refine R_aload_n rfl rfl ?_
  refine R_iconst (y := nI 5) rfl (by decide) ?_
  refine R_virt rfl rfl rfl rfl rfl rfl rfl (Nat.le_of_ble_eq_true rfl) (fun _ q => by cases q) (r_ends) ?_
  try refine R_top (y := nI _) (by assumption) ?_
  exact R_iret rfl rfl (by first | trivial | exact Or.inl rfl | exact Or.inr rfl | assumption) ⟨rfl, rfl⟩
theorem r_put {d : Nat} {M : Mem} {p a s : Nat} {k x : Int32} (hp : M 14 0 = nI p) (hp1 : p < 1000) (ha : M 10 0 = nI a) (hs : M 11 0 = nI s) : CalR (d + 2) j_X9_put [.ref 0, .int k, .int x] M (some (.int 0)) (welM (pushM M p k x) (nI (a + 1)) s) := by
  refine CalR_of (md := md_X9_put) (d := d + 1) rfl (Nat.le_of_ble_eq_true rfl) ?_
  show WR (CalR (d + 1)) t_X9_put 9 (some .int) _ 0 [(0, .ref 0), (1, .int k), (2, .int x)] [] _
  refine R_aload_n rfl rfl ?_
  refine R_getI rfl rfl (Or.inl rfl) ?_
  try refine R_top (y := nI _) (by assumption) ?_
  refine R_sipush (y := nI 1000) rfl (by decide) ?_
  refine R_icT (pc' := 16) rfl rfl (by first | assumption | exact icT (by decide) | exact ic_T (by omega) (by omega) (by simp only [icN]; omega) | exact ic_T0 (by omega) (by simp only [icN]; omega) | exact icT0 (by decide)) ?_
  refine R_aload_n rfl rfl ?_
  refine R_iload_n rfl rfl ?_
  refine R_iload_n rfl rfl ?_
  refine R_virt rfl rfl rfl rfl rfl rfl rfl (Nat.le_of_ble_eq_true rfl) (fun _ q => by cases q) (r_push (by first | assumption | rfl) (by omega)) ?_
  refine R_aload_n rfl rfl ?_
  refine R_aload_n rfl rfl ?_
  refine R_getI rfl rfl (Or.inl rfl) ?_
  try refine R_top (y := nI _) (by assumption) ?_
  refine R_iconst (y := nI 1) rfl (by decide) ?_
  first | refine R_iaddN rfl ?_ | refine R_iadd rfl ?_
  refine R_virt rfl rfl rfl rfl rfl rfl rfl (Nat.le_of_ble_eq_true rfl) (fun _ q => by cases q) (r_well (by assumption)) ?_
  try refine R_top (y := nI _) (by assumption) ?_
  exact R_iret rfl rfl (by first | trivial | exact Or.inl rfl | exact Or.inr rfl | assumption) ⟨rfl, rfl⟩
end
section
/-! ===== the reference: isCalm, remembers, meet ===== -/
def serA (M : Mem) (c : Int32) : Int32 := if c < 0 then 0 else M 29 c.toNatClampNeg
theorem r_ser {d : Nat} {M : Mem} {c : Int32} (h : c = -1 ∨ ∃ i, i < 1500 ∧ c = nI i) : CalR (d + 1) j_X9_serialAt [.ref 0, .int c] M (some (.int (serA M c))) M := by
  unfold serA
  rcases h with rfl | ⟨i, hi, rfl⟩
  · rw [if_pos (by decide)]
    exact r_serialN
  · rw [if_neg (nI_pos (by omega)), nI_clamp (by omega)]
    exact r_serialAt hi
/-- nothing along the chain was changed since -/
def clm (M : Mem) (t : Int32) : Nat → Int32 → Bool
  | 0, _ => true
  | n + 1, c => if c < 0 then true else if M 33 c.toNatClampNeg ≤ t then clm M t n (M 31 c.toNatClampNeg) else false
def b2i (b : Bool) : Int32 := if b = true then 1 else 0
theorem r_calmL {d : Nat} {M : Mem} {lv : Nat → Prop} {rk : Nat → Nat} {a : Nat} {k y : Int32} (hd : dwn M lv rk) (ha : a < 2000) : ∀ (N : Nat) (c : Int32), (c = -1 ∨ ∃ i, lv i ∧ c = nI i ∧ rk i < N) → WR (CalR d) t_X9_isCalm 9 (some .boolean) (fun v' M' => v' = some (.int (b2i (clm M (M 51 a) (N + 1) c))) ∧ M' = M) 22 [(4, .int c), (0, .ref 0), (1, .int (nI a)), (2, .int k), (3, .int y)] [] M := by
  intro N
  induction N with
  | zero =>
    intro c hcs
    rcases hcs with rfl | ⟨i, -, -, h⟩
    · refine R_iload rfl rfl ?_
      refine R_ifT (pc' := 57) rfl rfl (by first | assumption | exact icT (by decide) | exact ic_T (by omega) (by omega) (by simp only [icN, not_true_eq_false, not_false_eq_true] <;> omega) | exact ic_T0 (by omega) (by simp only [icN, not_true_eq_false, not_false_eq_true] <;> omega)) ?_
      refine R_iconst (y := nI 1) rfl (by decide) ?_
      exact R_iret rfl rfl (by first | trivial | exact Or.inl rfl | exact Or.inr rfl | assumption) ⟨rfl, rfl⟩
    · omega
  | succ N ih =>
    intro c hcs
    rcases hcs with rfl | ⟨i, hi, rfl, hrk⟩
    · refine R_iload rfl rfl ?_
      refine R_ifT (pc' := 57) rfl rfl (by first | assumption | exact icT (by decide) | exact ic_T (by omega) (by omega) (by simp only [icN, not_true_eq_false, not_false_eq_true] <;> omega) | exact ic_T0 (by omega) (by simp only [icN, not_true_eq_false, not_false_eq_true] <;> omega)) ?_
      refine R_iconst (y := nI 1) rfl (by decide) ?_
      exact R_iret rfl rfl (by first | trivial | exact Or.inl rfl | exact Or.inr rfl | assumption) ⟨rfl, rfl⟩
    · obtain ⟨hi15, ⟨n, hn4, hn⟩, hpar⟩ := hd i hi
      have hcl : (nI i).toNatClampNeg = i := nI_clamp (by omega)
      have hnn : ¬ nI i < 0 := nI_pos (by omega)
      by_cases hle : M 33 i ≤ M 51 a
      · have hf : clm M (M 51 a) (N + 1 + 1) (nI i) = clm M (M 51 a) (N + 1) (M 31 i) := by
          rw [clm, if_neg hnn, hcl, if_pos hle]
        rw [hf]
        refine R_iload rfl rfl ?_
        refine R_ifF rfl (by first | assumption | exact icF (by decide) | exact ic_F (by omega) (by omega) (by simp only [icN, not_true_eq_false, not_false_eq_true] <;> omega) | exact ic_F0 (by omega) (by simp only [icN, not_true_eq_false, not_false_eq_true] <;> omega)) ?_
        refine R_aload_n rfl rfl ?_
        refine R_getA rfl rfl (Or.inl rfl) ?_
        refine R_iload rfl rfl ?_
        refine R_iald rfl rfl rfl (show _ < 1500 from by omega) ?_
        try refine R_top (y := nI _) (by assumption) ?_
        refine R_aload_n rfl rfl ?_
        refine R_getA rfl rfl (Or.inl rfl) ?_
        refine R_iload_n rfl rfl ?_
        refine R_iald rfl rfl rfl (show _ < 2000 from by omega) ?_
        try refine R_top (y := nI _) (by assumption) ?_
        refine R_icT (pc' := 45) rfl rfl (by first | assumption | exact icT (by decide) | exact ic_T (by omega) (by omega) (by simp only [icN, not_true_eq_false, not_false_eq_true] <;> omega) | exact ic_T0 (by omega) (by simp only [icN, not_true_eq_false, not_false_eq_true] <;> omega)) ?_
        refine R_aload_n rfl rfl ?_
        refine R_getA rfl rfl (Or.inl rfl) ?_
        refine R_iload rfl rfl ?_
        refine R_iald rfl rfl rfl (show _ < 1500 from by omega) ?_
        try refine R_top (y := nI _) (by assumption) ?_
        refine R_istore (lv' := [(4, _), (0, _), (1, _), (2, _), (3, _)]) rfl rfl ?_
        refine R_goto (pc' := 22) rfl rfl ?_
        refine ih (M 31 i) ?_
        rcases hpar with h | ⟨j, h1, h2, h3⟩
        · exact Or.inl h
        · exact Or.inr ⟨j, h1, h2, by omega⟩
      · have hf : clm M (M 51 a) (N + 1 + 1) (nI i) = false := by
          rw [clm, if_neg hnn, hcl, if_neg hle]
        rw [hf]
        refine R_iload rfl rfl ?_
        refine R_ifF rfl (by first | assumption | exact icF (by decide) | exact ic_F (by omega) (by omega) (by simp only [icN, not_true_eq_false, not_false_eq_true] <;> omega) | exact ic_F0 (by omega) (by simp only [icN, not_true_eq_false, not_false_eq_true] <;> omega)) ?_
        refine R_aload_n rfl rfl ?_
        refine R_getA rfl rfl (Or.inl rfl) ?_
        refine R_iload rfl rfl ?_
        refine R_iald rfl rfl rfl (show _ < 1500 from by omega) ?_
        try refine R_top (y := nI _) (by assumption) ?_
        refine R_aload_n rfl rfl ?_
        refine R_getA rfl rfl (Or.inl rfl) ?_
        refine R_iload_n rfl rfl ?_
        refine R_iald rfl rfl rfl (show _ < 2000 from by omega) ?_
        try refine R_top (y := nI _) (by assumption) ?_
        refine R_icF rfl (by first | assumption | exact icF (by decide) | exact ic_F (by omega) (by omega) (by simp only [icN, not_true_eq_false, not_false_eq_true] <;> omega) | exact ic_F0 (by omega) (by simp only [icN, not_true_eq_false, not_false_eq_true] <;> omega)) ?_
        refine R_iconst (y := nI 0) rfl (by decide) ?_
        exact R_iret rfl rfl (by first | trivial | exact Or.inl rfl | exact Or.inr rfl | assumption) ⟨rfl, rfl⟩
/-- what stands above a value -/
def abv (M : Mem) (k : Nat) (y : Int32) : Int32 := if k = 2 then M 31 y.toNatClampNeg else M 25 k
theorem r_isCalm {d : Nat} {M : Mem} {lv : Nat → Prop} {rk : Nat → Nat} {a k N : Nat} {y : Int32} (hd : dwn M lv rk) (ha : a < 2000) (hk : k < 4) (hy : k = 2 → ∃ i, i < 1500 ∧ y = nI i) (hc : abv M k y = -1 ∨ ∃ i, lv i ∧ abv M k y = nI i ∧ rk i < N) : CalR (d + 1) j_X9_isCalm [.ref 0, .int (nI a), .int (nI k), .int y] M (some (.int (b2i (clm M (M 51 a) (N + 1) (abv M k y))))) M := by
  by_cases h2 : k = 2
  · obtain ⟨i, hi, rfl⟩ := hy h2
    subst h2
    have e : abv M 2 (nI i) = M 31 i := by unfold abv; rw [if_pos rfl, nI_clamp (by omega)]
    rw [e] at hc ⊢
    refine CalR_of (md := md_X9_isCalm) rfl (Nat.le_of_ble_eq_true rfl) ?_
    show WR (CalR d) t_X9_isCalm 9 (some .boolean) _ 0 [(0, .ref 0), (1, .int (nI a)), (2, .int (nI 2)), (3, .int (nI i))] [] _
    refine R_iload_n rfl rfl ?_
    refine R_iconst (y := nI 2) rfl (by decide) ?_
    refine R_icF rfl (by first | assumption | exact icF (by decide) | exact ic_F (by omega) (by omega) (by simp only [icN, not_true_eq_false, not_false_eq_true] <;> omega) | exact ic_F0 (by omega) (by simp only [icN, not_true_eq_false, not_false_eq_true] <;> omega)) ?_
    refine R_aload_n rfl rfl ?_
    refine R_getA rfl rfl (Or.inl rfl) ?_
    refine R_iload_n rfl rfl ?_
    refine R_iald rfl rfl rfl (show _ < 1500 from by omega) ?_
    try refine R_top (y := nI _) (by assumption) ?_
    refine R_goto (pc' := 20) rfl rfl ?_
    refine R_istore (lv' := [(4, _), (0, _), (1, _), (2, _), (3, _)]) rfl rfl ?_
    exact r_calmL hd ha N _ hc
  · have e : abv M k y = M 25 k := by unfold abv; rw [if_neg h2]
    rw [e] at hc ⊢
    refine CalR_of (md := md_X9_isCalm) rfl (Nat.le_of_ble_eq_true rfl) ?_
    show WR (CalR d) t_X9_isCalm 9 (some .boolean) _ 0 [(0, .ref 0), (1, .int (nI a)), (2, .int (nI k)), (3, .int y)] [] _
    refine R_iload_n rfl rfl ?_
    refine R_iconst (y := nI 2) rfl (by decide) ?_
    refine R_icT (pc' := 14) rfl rfl (by first | assumption | exact icT (by decide) | exact ic_T (by omega) (by omega) (by simp only [icN, not_true_eq_false, not_false_eq_true] <;> omega) | exact ic_T0 (by omega) (by simp only [icN, not_true_eq_false, not_false_eq_true] <;> omega)) ?_
    refine R_aload_n rfl rfl ?_
    refine R_getA rfl rfl (Or.inl rfl) ?_
    refine R_iload_n rfl rfl ?_
    refine R_iald rfl rfl rfl (show _ < 4 from by omega) ?_
    try refine R_top (y := nI _) (by assumption) ?_
    refine R_istore (lv' := [(4, _), (0, _), (1, _), (2, _), (3, _)]) rfl rfl ?_
    exact r_calmL hd ha N _ hc
/-- the site a remembers a value of that shape -/
def rmb (M : Mem) (a k i : Nat) : Prop := M 47 a = nI k ∧ (if k = 2 then (M 49 a = M 32 i ∧ M 48 a = serA M (M 31 i) ∧ ∀ s, s < (M 32 i).toNatClampNeg → M 50 (40 * a + s) = M 34 (40 * i + s)) else M 48 a = serA M (M 25 k))
theorem r_rem1 {d : Nat} {M : Mem} {a k i n : Nat} {y : Int32} (ha : a < 2000) (hk : k < 4) (hp : M 25 k = -1 ∨ ∃ i, i < 1500 ∧ M 25 k = nI i) (hi : i < 1500) (hn : M 32 i = nI n) (hn4 : n ≤ 40) (hpi : M 31 i = -1 ∨ ∃ j, j < 1500 ∧ M 31 i = nI j) (hy : k = 2 → y = nI i) (h : rmb M a k i) : CalR (d + 2) j_X9_remembers [.ref 0, .int (nI a), .int (nI k), .int y] M (some (.int 1)) M := by
  obtain ⟨h1, h2⟩ := h
  by_cases hk2 : k = 2
  · have hyy := hy hk2
    subst hk2
    subst hyy
    rw [if_pos rfl] at h2
    obtain ⟨g1, g2, g3⟩ := h2
    rw [hn, nI_clamp (by omega)] at g3
    have hfl := g1.trans hn
    refine CalR_of (md := md_X9_remembers) (d := d + 1) rfl (Nat.le_of_ble_eq_true rfl) ?_
    show WR (CalR (d + 1)) t_X9_remembers 9 (some .boolean) _ 0 [(0, .ref 0), (1, .int (nI a)), (2, .int (nI 2)), (3, .int (nI i))] [] _
    refine R_aload_n rfl rfl ?_
    refine R_getA rfl rfl (Or.inl rfl) ?_
    refine R_iload_n rfl rfl ?_
    refine R_iald rfl rfl rfl (show _ < 2000 from by omega) ?_
    try refine R_top (y := nI _) (by assumption) ?_
    refine R_iload_n rfl rfl ?_
    refine R_icT (pc' := 12) rfl rfl (by first | assumption | exact icT (by decide) | exact ic_T (by omega) (by omega) (by simp only [icN, not_true_eq_false, not_false_eq_true] <;> omega) | exact ic_T0 (by omega) (by simp only [icN, not_true_eq_false, not_false_eq_true] <;> omega)) ?_
    refine R_iload_n rfl rfl ?_
    refine R_iconst (y := nI 2) rfl (by decide) ?_
    refine R_icT (pc' := 42) rfl rfl (by first | assumption | exact icT (by decide) | exact ic_T (by omega) (by omega) (by simp only [icN, not_true_eq_false, not_false_eq_true] <;> omega) | exact ic_T0 (by omega) (by simp only [icN, not_true_eq_false, not_false_eq_true] <;> omega)) ?_
    refine R_aload_n rfl rfl ?_
    refine R_getA rfl rfl (Or.inl rfl) ?_
    refine R_iload_n rfl rfl ?_
    refine R_iald rfl rfl rfl (show _ < 2000 from by omega) ?_
    try refine R_top (y := nI _) (by assumption) ?_
    refine R_aload_n rfl rfl ?_
    refine R_getA rfl rfl (Or.inl rfl) ?_
    refine R_iload_n rfl rfl ?_
    refine R_iald rfl rfl rfl (show _ < 1500 from by omega) ?_
    try refine R_top (y := nI _) (by assumption) ?_
    refine R_icF rfl (by first | assumption | exact icF (by decide) | exact ic_F (by omega) (by omega) (by simp only [icN, not_true_eq_false, not_false_eq_true] <;> omega) | exact ic_F0 (by omega) (by simp only [icN, not_true_eq_false, not_false_eq_true] <;> omega)) ?_
    refine R_aload_n rfl rfl ?_
    refine R_getA rfl rfl (Or.inl rfl) ?_
    refine R_iload_n rfl rfl ?_
    refine R_iald rfl rfl rfl (show _ < 2000 from by omega) ?_
    try refine R_top (y := nI _) (by assumption) ?_
    refine R_aload_n rfl rfl ?_
    refine R_aload_n rfl rfl ?_
    refine R_getA rfl rfl (Or.inl rfl) ?_
    refine R_iload_n rfl rfl ?_
    refine R_iald rfl rfl rfl (show _ < 1500 from by omega) ?_
    try refine R_top (y := nI _) (by assumption) ?_
    refine R_virt rfl rfl rfl rfl rfl rfl rfl (Nat.le_of_ble_eq_true rfl) (fun _ q => by cases q) (r_ser hpi) ?_
    try refine R_top (y := nI _) (by assumption) ?_
    refine R_icF rfl (fun q => q g2) ?_
    refine R_iconst (y := nI 1) rfl (by decide) ?_
    refine R_goto (pc' := 81) rfl rfl ?_
    refine R_istore (lv' := [(4, _), (0, _), (1, _), (2, _), (3, _)]) rfl rfl ?_
    refine R_iconst (y := nI 0) rfl (by decide) ?_
    refine R_istore (lv' := [(5, _), (4, _), (0, _), (1, _), (2, _), (3, _)]) rfl rfl ?_
    refine dn_up (P := fun s => WR (CalR (d + 1)) t_X9_remembers 9 (some .boolean) (fun v' M' => v' = some (.int 1) ∧ M' = M) 86 [(5, .int (nI s)), (4, .int (nI 1)), (0, .ref 0), (1, .int (nI a)), (2, .int (nI 2)), (3, .int (nI i))] [] M) (N := n) ?_ ?_ 0 (Nat.zero_le _)
    · refine R_iload rfl rfl ?_
      refine R_aload_n rfl rfl ?_
      refine R_getA rfl rfl (Or.inl rfl) ?_
      refine R_iload_n rfl rfl ?_
      refine R_iald rfl rfl rfl (show _ < 1500 from by omega) ?_
      try refine R_top (y := nI _) (by assumption) ?_
      refine R_icT (pc' := 142) rfl rfl (by first | assumption | exact icT (by decide) | exact ic_T (by omega) (by omega) (by simp only [icN, not_true_eq_false, not_false_eq_true] <;> omega) | exact ic_T0 (by omega) (by simp only [icN, not_true_eq_false, not_false_eq_true] <;> omega)) ?_
      refine R_iload rfl rfl ?_
      exact R_iret rfl rfl (by first | trivial | exact Or.inl rfl | exact Or.inr rfl | assumption) ⟨rfl, rfl⟩
    · intro s hs nx
      have gs := g3 s hs
      refine R_iload rfl rfl ?_
      refine R_aload_n rfl rfl ?_
      refine R_getA rfl rfl (Or.inl rfl) ?_
      refine R_iload_n rfl rfl ?_
      refine R_iald rfl rfl rfl (show _ < 1500 from by omega) ?_
      try refine R_top (y := nI _) (by assumption) ?_
      refine R_icF rfl (by first | assumption | exact icF (by decide) | exact ic_F (by omega) (by omega) (by simp only [icN, not_true_eq_false, not_false_eq_true] <;> omega) | exact ic_F0 (by omega) (by simp only [icN, not_true_eq_false, not_false_eq_true] <;> omega)) ?_
      refine R_iload rfl rfl ?_
      refine R_ifF rfl (by first | assumption | exact icF (by decide) | exact ic_F (by omega) (by omega) (by simp only [icN, not_true_eq_false, not_false_eq_true] <;> omega) | exact ic_F0 (by omega) (by simp only [icN, not_true_eq_false, not_false_eq_true] <;> omega)) ?_
      refine R_aload_n rfl rfl ?_
      refine R_getA rfl rfl (Or.inl rfl) ?_
      refine R_bipush (y := nI 40) rfl (by decide) ?_
      refine R_iload_n rfl rfl ?_
      first | refine R_imulN rfl ?_ | refine R_imul rfl ?_
      refine R_iload rfl rfl ?_
      first | refine R_iaddN rfl ?_ | refine R_iadd rfl ?_
      refine R_iald rfl rfl rfl (show _ < 80000 from by omega) ?_
      try refine R_top (y := nI _) (by assumption) ?_
      refine R_aload_n rfl rfl ?_
      refine R_getA rfl rfl (Or.inl rfl) ?_
      refine R_bipush (y := nI 40) rfl (by decide) ?_
      refine R_iload_n rfl rfl ?_
      first | refine R_imulN rfl ?_ | refine R_imul rfl ?_
      refine R_iload rfl rfl ?_
      first | refine R_iaddN rfl ?_ | refine R_iadd rfl ?_
      refine R_iald rfl rfl rfl (show _ < 60000 from by omega) ?_
      try refine R_top (y := nI _) (by assumption) ?_
      refine R_icF rfl (fun q => q gs) ?_
      refine R_iconst (y := nI 1) rfl (by decide) ?_
      refine R_goto (pc' := 134) rfl rfl ?_
      refine R_istore (lv' := [(4, _), (5, _), (0, _), (1, _), (2, _), (3, _)]) rfl rfl ?_
      refine R_iinc (lv' := [(5, _), (4, _), (0, _), (1, _), (2, _), (3, _)]) rfl rfl (by exact nI_1 _) rfl ?_
      refine R_goto (pc' := 86) rfl rfl ?_
      exact nx
  · rw [if_neg hk2] at h2
    refine CalR_of (md := md_X9_remembers) (d := d + 1) rfl (Nat.le_of_ble_eq_true rfl) ?_
    show WR (CalR (d + 1)) t_X9_remembers 9 (some .boolean) _ 0 [(0, .ref 0), (1, .int (nI a)), (2, .int (nI k)), (3, .int y)] [] _
    refine R_aload_n rfl rfl ?_
    refine R_getA rfl rfl (Or.inl rfl) ?_
    refine R_iload_n rfl rfl ?_
    refine R_iald rfl rfl rfl (show _ < 2000 from by omega) ?_
    try refine R_top (y := nI _) (by assumption) ?_
    refine R_iload_n rfl rfl ?_
    refine R_icT (pc' := 12) rfl rfl (by first | assumption | exact icT (by decide) | exact ic_T (by omega) (by omega) (by simp only [icN, not_true_eq_false, not_false_eq_true] <;> omega) | exact ic_T0 (by omega) (by simp only [icN, not_true_eq_false, not_false_eq_true] <;> omega)) ?_
    refine R_iload_n rfl rfl ?_
    refine R_iconst (y := nI 2) rfl (by decide) ?_
    refine R_icF rfl (by first | assumption | exact icF (by decide) | exact ic_F (by omega) (by omega) (by simp only [icN, not_true_eq_false, not_false_eq_true] <;> omega) | exact ic_F0 (by omega) (by simp only [icN, not_true_eq_false, not_false_eq_true] <;> omega)) ?_
    refine R_aload_n rfl rfl ?_
    refine R_getA rfl rfl (Or.inl rfl) ?_
    refine R_iload_n rfl rfl ?_
    refine R_iald rfl rfl rfl (show _ < 2000 from by omega) ?_
    try refine R_top (y := nI _) (by assumption) ?_
    refine R_aload_n rfl rfl ?_
    refine R_aload_n rfl rfl ?_
    refine R_getA rfl rfl (Or.inl rfl) ?_
    refine R_iload_n rfl rfl ?_
    refine R_iald rfl rfl rfl (show _ < 4 from by omega) ?_
    try refine R_top (y := nI _) (by assumption) ?_
    refine R_virt rfl rfl rfl rfl rfl rfl rfl (Nat.le_of_ble_eq_true rfl) (fun _ q => by cases q) (r_ser hp) ?_
    try refine R_top (y := nI _) (by assumption) ?_
    refine R_icF rfl (fun q => q h2) ?_
    refine R_iconst (y := nI 1) rfl (by decide) ?_
    refine R_goto (pc' := 41) rfl rfl ?_
    exact R_iret rfl rfl (by first | trivial | exact Or.inl rfl | exact Or.inr rfl | assumption) ⟨rfl, rfl⟩
theorem r_rem0 {d : Nat} {M : Mem} {a k i n : Nat} {y : Int32} (ha : a < 2000) (hk : k < 4) (hp : M 25 k = -1 ∨ ∃ i, i < 1500 ∧ M 25 k = nI i) (hi : i < 1500) (hn : M 32 i = nI n) (hn4 : n ≤ 40) (hpi : M 31 i = -1 ∨ ∃ j, j < 1500 ∧ M 31 i = nI j) (hy : k = 2 → y = nI i) (h : ¬ rmb M a k i) : CalR (d + 2) j_X9_remembers [.ref 0, .int (nI a), .int (nI k), .int y] M (some (.int 0)) M := by
  by_cases h1 : M 47 a = nI k
  · by_cases hk2 : k = 2
    · have hyy := hy hk2
      subst hk2
      subst hyy
      have h2 : ¬ (M 49 a = M 32 i ∧ M 48 a = serA M (M 31 i) ∧ ∀ s, s < (M 32 i).toNatClampNeg → M 50 (40 * a + s) = M 34 (40 * i + s)) := fun q => h ⟨h1, by rw [if_pos rfl]; exact q⟩
      rw [hn, nI_clamp (by omega)] at h2
      have fin : ∀ s x5, s ≤ n → WR (CalR (d + 1)) t_X9_remembers 9 (some .boolean) (fun v' M' => v' = some (.int 0) ∧ M' = M) 86 [(5, .int (nI s)), (4, .int (nI 0)), (0, .ref 0), (1, .int (nI a)), (2, .int (nI 2)), (3, .int (nI i))] x5 M ∨ ¬ x5 = [] := by
        intro s x5 hs
        by_cases hx : x5 = []
        · subst hx
          refine Or.inl ?_
          by_cases hsn : s = n
          · subst hsn
            refine R_iload rfl rfl ?_
            refine R_aload_n rfl rfl ?_
            refine R_getA rfl rfl (Or.inl rfl) ?_
            refine R_iload_n rfl rfl ?_
            refine R_iald rfl rfl rfl (show _ < 1500 from by omega) ?_
            try refine R_top (y := nI _) (by assumption) ?_
            refine R_icT (pc' := 142) rfl rfl (by first | assumption | exact icT (by decide) | exact ic_T (by omega) (by omega) (by simp only [icN, not_true_eq_false, not_false_eq_true] <;> omega) | exact ic_T0 (by omega) (by simp only [icN, not_true_eq_false, not_false_eq_true] <;> omega)) ?_
            refine R_iload rfl rfl ?_
            exact R_iret rfl rfl (by first | trivial | exact Or.inl rfl | exact Or.inr rfl | assumption) ⟨rfl, rfl⟩
          · refine R_iload rfl rfl ?_
            refine R_aload_n rfl rfl ?_
            refine R_getA rfl rfl (Or.inl rfl) ?_
            refine R_iload_n rfl rfl ?_
            refine R_iald rfl rfl rfl (show _ < 1500 from by omega) ?_
            try refine R_top (y := nI _) (by assumption) ?_
            refine R_icF rfl (by first | assumption | exact icF (by decide) | exact ic_F (by omega) (by omega) (by simp only [icN, not_true_eq_false, not_false_eq_true] <;> omega) | exact ic_F0 (by omega) (by simp only [icN, not_true_eq_false, not_false_eq_true] <;> omega)) ?_
            refine R_iload rfl rfl ?_
            refine R_ifT (pc' := 142) rfl rfl (by first | assumption | exact icT (by decide) | exact ic_T (by omega) (by omega) (by simp only [icN, not_true_eq_false, not_false_eq_true] <;> omega) | exact ic_T0 (by omega) (by simp only [icN, not_true_eq_false, not_false_eq_true] <;> omega)) ?_
            refine R_iload rfl rfl ?_
            exact R_iret rfl rfl (by first | trivial | exact Or.inl rfl | exact Or.inr rfl | assumption) ⟨rfl, rfl⟩
        · exact Or.inr hx
      have fin2 : ∀ s, s ≤ n → WR (CalR (d + 1)) t_X9_remembers 9 (some .boolean) (fun v' M' => v' = some (.int 0) ∧ M' = M) 86 [(5, .int (nI s)), (4, .int (nI 0)), (0, .ref 0), (1, .int (nI a)), (2, .int (nI 2)), (3, .int (nI i))] [] M := fun s hs => (fin s [] hs).resolve_right (fun q => q rfl)
      refine CalR_of (md := md_X9_remembers) (d := d + 1) rfl (Nat.le_of_ble_eq_true rfl) ?_
      show WR (CalR (d + 1)) t_X9_remembers 9 (some .boolean) _ 0 [(0, .ref 0), (1, .int (nI a)), (2, .int (nI 2)), (3, .int (nI i))] [] _
      by_cases g1 : M 49 a = nI n
      · by_cases g2 : M 48 a = serA M (M 31 i)
        · have hex : ∃ s, s < n ∧ ¬ M 50 (40 * a + s) = M 34 (40 * i + s) := Classical.byContradiction (fun q => h2 ⟨g1, g2, fun s hs => Classical.byContradiction (fun r => q ⟨s, hs, r⟩)⟩)
          obtain ⟨s0, ⟨hs0, hne⟩, hlt⟩ := pk_least (fun s => s < n ∧ ¬ M 50 (40 * a + s) = M 34 (40 * i + s)) hex
          refine R_aload_n rfl rfl ?_
          refine R_getA rfl rfl (Or.inl rfl) ?_
          refine R_iload_n rfl rfl ?_
          refine R_iald rfl rfl rfl (show _ < 2000 from by omega) ?_
          try refine R_top (y := nI _) (by assumption) ?_
          refine R_iload_n rfl rfl ?_
          refine R_icT (pc' := 12) rfl rfl (by first | assumption | exact icT (by decide) | exact ic_T (by omega) (by omega) (by simp only [icN, not_true_eq_false, not_false_eq_true] <;> omega) | exact ic_T0 (by omega) (by simp only [icN, not_true_eq_false, not_false_eq_true] <;> omega)) ?_
          refine R_iload_n rfl rfl ?_
          refine R_iconst (y := nI 2) rfl (by decide) ?_
          refine R_icT (pc' := 42) rfl rfl (by first | assumption | exact icT (by decide) | exact ic_T (by omega) (by omega) (by simp only [icN, not_true_eq_false, not_false_eq_true] <;> omega) | exact ic_T0 (by omega) (by simp only [icN, not_true_eq_false, not_false_eq_true] <;> omega)) ?_
          refine R_aload_n rfl rfl ?_
          refine R_getA rfl rfl (Or.inl rfl) ?_
          refine R_iload_n rfl rfl ?_
          refine R_iald rfl rfl rfl (show _ < 2000 from by omega) ?_
          try refine R_top (y := nI _) (by assumption) ?_
          refine R_aload_n rfl rfl ?_
          refine R_getA rfl rfl (Or.inl rfl) ?_
          refine R_iload_n rfl rfl ?_
          refine R_iald rfl rfl rfl (show _ < 1500 from by omega) ?_
          try refine R_top (y := nI _) (by assumption) ?_
          refine R_icF rfl (by first | assumption | exact icF (by decide) | exact ic_F (by omega) (by omega) (by simp only [icN, not_true_eq_false, not_false_eq_true] <;> omega) | exact ic_F0 (by omega) (by simp only [icN, not_true_eq_false, not_false_eq_true] <;> omega)) ?_
          refine R_aload_n rfl rfl ?_
          refine R_getA rfl rfl (Or.inl rfl) ?_
          refine R_iload_n rfl rfl ?_
          refine R_iald rfl rfl rfl (show _ < 2000 from by omega) ?_
          try refine R_top (y := nI _) (by assumption) ?_
          refine R_aload_n rfl rfl ?_
          refine R_aload_n rfl rfl ?_
          refine R_getA rfl rfl (Or.inl rfl) ?_
          refine R_iload_n rfl rfl ?_
          refine R_iald rfl rfl rfl (show _ < 1500 from by omega) ?_
          try refine R_top (y := nI _) (by assumption) ?_
          refine R_virt rfl rfl rfl rfl rfl rfl rfl (Nat.le_of_ble_eq_true rfl) (fun _ q => by cases q) (r_ser hpi) ?_
          try refine R_top (y := nI _) (by assumption) ?_
          refine R_icF rfl (fun q => q g2) ?_
          refine R_iconst (y := nI 1) rfl (by decide) ?_
          refine R_goto (pc' := 81) rfl rfl ?_
          refine R_istore (lv' := [(4, _), (0, _), (1, _), (2, _), (3, _)]) rfl rfl ?_
          refine R_iconst (y := nI 0) rfl (by decide) ?_
          refine R_istore (lv' := [(5, _), (4, _), (0, _), (1, _), (2, _), (3, _)]) rfl rfl ?_
          refine dn_up (P := fun s => WR (CalR (d + 1)) t_X9_remembers 9 (some .boolean) (fun v' M' => v' = some (.int 0) ∧ M' = M) 86 [(5, .int (nI s)), (4, .int (nI 1)), (0, .ref 0), (1, .int (nI a)), (2, .int (nI 2)), (3, .int (nI i))] [] M) (N := s0) ?_ ?_ 0 (Nat.zero_le _)
          · refine R_iload rfl rfl ?_
            refine R_aload_n rfl rfl ?_
            refine R_getA rfl rfl (Or.inl rfl) ?_
            refine R_iload_n rfl rfl ?_
            refine R_iald rfl rfl rfl (show _ < 1500 from by omega) ?_
            try refine R_top (y := nI _) (by assumption) ?_
            refine R_icF rfl (by first | assumption | exact icF (by decide) | exact ic_F (by omega) (by omega) (by simp only [icN, not_true_eq_false, not_false_eq_true] <;> omega) | exact ic_F0 (by omega) (by simp only [icN, not_true_eq_false, not_false_eq_true] <;> omega)) ?_
            refine R_iload rfl rfl ?_
            refine R_ifF rfl (by first | assumption | exact icF (by decide) | exact ic_F (by omega) (by omega) (by simp only [icN, not_true_eq_false, not_false_eq_true] <;> omega) | exact ic_F0 (by omega) (by simp only [icN, not_true_eq_false, not_false_eq_true] <;> omega)) ?_
            refine R_aload_n rfl rfl ?_
            refine R_getA rfl rfl (Or.inl rfl) ?_
            refine R_bipush (y := nI 40) rfl (by decide) ?_
            refine R_iload_n rfl rfl ?_
            first | refine R_imulN rfl ?_ | refine R_imul rfl ?_
            refine R_iload rfl rfl ?_
            first | refine R_iaddN rfl ?_ | refine R_iadd rfl ?_
            refine R_iald rfl rfl rfl (show _ < 80000 from by omega) ?_
            try refine R_top (y := nI _) (by assumption) ?_
            refine R_aload_n rfl rfl ?_
            refine R_getA rfl rfl (Or.inl rfl) ?_
            refine R_bipush (y := nI 40) rfl (by decide) ?_
            refine R_iload_n rfl rfl ?_
            first | refine R_imulN rfl ?_ | refine R_imul rfl ?_
            refine R_iload rfl rfl ?_
            first | refine R_iaddN rfl ?_ | refine R_iadd rfl ?_
            refine R_iald rfl rfl rfl (show _ < 60000 from by omega) ?_
            try refine R_top (y := nI _) (by assumption) ?_
            refine R_icT (pc' := 133) rfl rfl hne ?_
            refine R_iconst (y := nI 0) rfl (by decide) ?_
            refine R_istore (lv' := [(4, _), (5, _), (0, _), (1, _), (2, _), (3, _)]) rfl rfl ?_
            refine R_iinc (lv' := [(5, _), (4, _), (0, _), (1, _), (2, _), (3, _)]) rfl rfl (by exact nI_1 _) rfl ?_
            refine R_goto (pc' := 86) rfl rfl ?_
            exact fin2 (s0 + 1) (by omega)
          · intro s hs nx
            have gs : M 50 (40 * a + s) = M 34 (40 * i + s) := Classical.byContradiction (fun q => hlt s hs ⟨by omega, q⟩)
            refine R_iload rfl rfl ?_
            refine R_aload_n rfl rfl ?_
            refine R_getA rfl rfl (Or.inl rfl) ?_
            refine R_iload_n rfl rfl ?_
            refine R_iald rfl rfl rfl (show _ < 1500 from by omega) ?_
            try refine R_top (y := nI _) (by assumption) ?_
            refine R_icF rfl (by first | assumption | exact icF (by decide) | exact ic_F (by omega) (by omega) (by simp only [icN, not_true_eq_false, not_false_eq_true] <;> omega) | exact ic_F0 (by omega) (by simp only [icN, not_true_eq_false, not_false_eq_true] <;> omega)) ?_
            refine R_iload rfl rfl ?_
            refine R_ifF rfl (by first | assumption | exact icF (by decide) | exact ic_F (by omega) (by omega) (by simp only [icN, not_true_eq_false, not_false_eq_true] <;> omega) | exact ic_F0 (by omega) (by simp only [icN, not_true_eq_false, not_false_eq_true] <;> omega)) ?_
            refine R_aload_n rfl rfl ?_
            refine R_getA rfl rfl (Or.inl rfl) ?_
            refine R_bipush (y := nI 40) rfl (by decide) ?_
            refine R_iload_n rfl rfl ?_
            first | refine R_imulN rfl ?_ | refine R_imul rfl ?_
            refine R_iload rfl rfl ?_
            first | refine R_iaddN rfl ?_ | refine R_iadd rfl ?_
            refine R_iald rfl rfl rfl (show _ < 80000 from by omega) ?_
            try refine R_top (y := nI _) (by assumption) ?_
            refine R_aload_n rfl rfl ?_
            refine R_getA rfl rfl (Or.inl rfl) ?_
            refine R_bipush (y := nI 40) rfl (by decide) ?_
            refine R_iload_n rfl rfl ?_
            first | refine R_imulN rfl ?_ | refine R_imul rfl ?_
            refine R_iload rfl rfl ?_
            first | refine R_iaddN rfl ?_ | refine R_iadd rfl ?_
            refine R_iald rfl rfl rfl (show _ < 60000 from by omega) ?_
            try refine R_top (y := nI _) (by assumption) ?_
            refine R_icF rfl (fun q => q gs) ?_
            refine R_iconst (y := nI 1) rfl (by decide) ?_
            refine R_goto (pc' := 134) rfl rfl ?_
            refine R_istore (lv' := [(4, _), (5, _), (0, _), (1, _), (2, _), (3, _)]) rfl rfl ?_
            refine R_iinc (lv' := [(5, _), (4, _), (0, _), (1, _), (2, _), (3, _)]) rfl rfl (by exact nI_1 _) rfl ?_
            refine R_goto (pc' := 86) rfl rfl ?_
            exact nx
        · refine R_aload_n rfl rfl ?_
          refine R_getA rfl rfl (Or.inl rfl) ?_
          refine R_iload_n rfl rfl ?_
          refine R_iald rfl rfl rfl (show _ < 2000 from by omega) ?_
          try refine R_top (y := nI _) (by assumption) ?_
          refine R_iload_n rfl rfl ?_
          refine R_icT (pc' := 12) rfl rfl (by first | assumption | exact icT (by decide) | exact ic_T (by omega) (by omega) (by simp only [icN, not_true_eq_false, not_false_eq_true] <;> omega) | exact ic_T0 (by omega) (by simp only [icN, not_true_eq_false, not_false_eq_true] <;> omega)) ?_
          refine R_iload_n rfl rfl ?_
          refine R_iconst (y := nI 2) rfl (by decide) ?_
          refine R_icT (pc' := 42) rfl rfl (by first | assumption | exact icT (by decide) | exact ic_T (by omega) (by omega) (by simp only [icN, not_true_eq_false, not_false_eq_true] <;> omega) | exact ic_T0 (by omega) (by simp only [icN, not_true_eq_false, not_false_eq_true] <;> omega)) ?_
          refine R_aload_n rfl rfl ?_
          refine R_getA rfl rfl (Or.inl rfl) ?_
          refine R_iload_n rfl rfl ?_
          refine R_iald rfl rfl rfl (show _ < 2000 from by omega) ?_
          try refine R_top (y := nI _) (by assumption) ?_
          refine R_aload_n rfl rfl ?_
          refine R_getA rfl rfl (Or.inl rfl) ?_
          refine R_iload_n rfl rfl ?_
          refine R_iald rfl rfl rfl (show _ < 1500 from by omega) ?_
          try refine R_top (y := nI _) (by assumption) ?_
          refine R_icF rfl (by first | assumption | exact icF (by decide) | exact ic_F (by omega) (by omega) (by simp only [icN, not_true_eq_false, not_false_eq_true] <;> omega) | exact ic_F0 (by omega) (by simp only [icN, not_true_eq_false, not_false_eq_true] <;> omega)) ?_
          refine R_aload_n rfl rfl ?_
          refine R_getA rfl rfl (Or.inl rfl) ?_
          refine R_iload_n rfl rfl ?_
          refine R_iald rfl rfl rfl (show _ < 2000 from by omega) ?_
          try refine R_top (y := nI _) (by assumption) ?_
          refine R_aload_n rfl rfl ?_
          refine R_aload_n rfl rfl ?_
          refine R_getA rfl rfl (Or.inl rfl) ?_
          refine R_iload_n rfl rfl ?_
          refine R_iald rfl rfl rfl (show _ < 1500 from by omega) ?_
          try refine R_top (y := nI _) (by assumption) ?_
          refine R_virt rfl rfl rfl rfl rfl rfl rfl (Nat.le_of_ble_eq_true rfl) (fun _ q => by cases q) (r_ser hpi) ?_
          try refine R_top (y := nI _) (by assumption) ?_
          refine R_icT (pc' := 80) rfl rfl (g2) ?_
          refine R_iconst (y := nI 0) rfl (by decide) ?_
          refine R_istore (lv' := [(4, _), (0, _), (1, _), (2, _), (3, _)]) rfl rfl ?_
          refine R_iconst (y := nI 0) rfl (by decide) ?_
          refine R_istore (lv' := [(5, _), (4, _), (0, _), (1, _), (2, _), (3, _)]) rfl rfl ?_
          exact fin2 0 (Nat.zero_le _)
      · refine R_aload_n rfl rfl ?_
        refine R_getA rfl rfl (Or.inl rfl) ?_
        refine R_iload_n rfl rfl ?_
        refine R_iald rfl rfl rfl (show _ < 2000 from by omega) ?_
        try refine R_top (y := nI _) (by assumption) ?_
        refine R_iload_n rfl rfl ?_
        refine R_icT (pc' := 12) rfl rfl (by first | assumption | exact icT (by decide) | exact ic_T (by omega) (by omega) (by simp only [icN, not_true_eq_false, not_false_eq_true] <;> omega) | exact ic_T0 (by omega) (by simp only [icN, not_true_eq_false, not_false_eq_true] <;> omega)) ?_
        refine R_iload_n rfl rfl ?_
        refine R_iconst (y := nI 2) rfl (by decide) ?_
        refine R_icT (pc' := 42) rfl rfl (by first | assumption | exact icT (by decide) | exact ic_T (by omega) (by omega) (by simp only [icN, not_true_eq_false, not_false_eq_true] <;> omega) | exact ic_T0 (by omega) (by simp only [icN, not_true_eq_false, not_false_eq_true] <;> omega)) ?_
        refine R_aload_n rfl rfl ?_
        refine R_getA rfl rfl (Or.inl rfl) ?_
        refine R_iload_n rfl rfl ?_
        refine R_iald rfl rfl rfl (show _ < 2000 from by omega) ?_
        try refine R_top (y := nI _) (by assumption) ?_
        refine R_aload_n rfl rfl ?_
        refine R_getA rfl rfl (Or.inl rfl) ?_
        refine R_iload_n rfl rfl ?_
        refine R_iald rfl rfl rfl (show _ < 1500 from by omega) ?_
        try refine R_top (y := nI _) (by assumption) ?_
        refine R_icT (pc' := 80) rfl rfl (by first | assumption | exact icT (by decide) | exact ic_T (by omega) (by omega) (by simp only [icN, not_true_eq_false, not_false_eq_true] <;> omega) | exact ic_T0 (by omega) (by simp only [icN, not_true_eq_false, not_false_eq_true] <;> omega)) ?_
        refine R_iconst (y := nI 0) rfl (by decide) ?_
        refine R_istore (lv' := [(4, _), (0, _), (1, _), (2, _), (3, _)]) rfl rfl ?_
        refine R_iconst (y := nI 0) rfl (by decide) ?_
        refine R_istore (lv' := [(5, _), (4, _), (0, _), (1, _), (2, _), (3, _)]) rfl rfl ?_
        exact fin2 0 (Nat.zero_le _)
    · have h2 : ¬ M 48 a = serA M (M 25 k) := fun q => h ⟨h1, by rw [if_neg hk2]; exact q⟩
      refine CalR_of (md := md_X9_remembers) (d := d + 1) rfl (Nat.le_of_ble_eq_true rfl) ?_
      show WR (CalR (d + 1)) t_X9_remembers 9 (some .boolean) _ 0 [(0, .ref 0), (1, .int (nI a)), (2, .int (nI k)), (3, .int y)] [] _
      refine R_aload_n rfl rfl ?_
      refine R_getA rfl rfl (Or.inl rfl) ?_
      refine R_iload_n rfl rfl ?_
      refine R_iald rfl rfl rfl (show _ < 2000 from by omega) ?_
      try refine R_top (y := nI _) (by assumption) ?_
      refine R_iload_n rfl rfl ?_
      refine R_icT (pc' := 12) rfl rfl (by first | assumption | exact icT (by decide) | exact ic_T (by omega) (by omega) (by simp only [icN, not_true_eq_false, not_false_eq_true] <;> omega) | exact ic_T0 (by omega) (by simp only [icN, not_true_eq_false, not_false_eq_true] <;> omega)) ?_
      refine R_iload_n rfl rfl ?_
      refine R_iconst (y := nI 2) rfl (by decide) ?_
      refine R_icF rfl (by first | assumption | exact icF (by decide) | exact ic_F (by omega) (by omega) (by simp only [icN, not_true_eq_false, not_false_eq_true] <;> omega) | exact ic_F0 (by omega) (by simp only [icN, not_true_eq_false, not_false_eq_true] <;> omega)) ?_
      refine R_aload_n rfl rfl ?_
      refine R_getA rfl rfl (Or.inl rfl) ?_
      refine R_iload_n rfl rfl ?_
      refine R_iald rfl rfl rfl (show _ < 2000 from by omega) ?_
      try refine R_top (y := nI _) (by assumption) ?_
      refine R_aload_n rfl rfl ?_
      refine R_aload_n rfl rfl ?_
      refine R_getA rfl rfl (Or.inl rfl) ?_
      refine R_iload_n rfl rfl ?_
      refine R_iald rfl rfl rfl (show _ < 4 from by omega) ?_
      try refine R_top (y := nI _) (by assumption) ?_
      refine R_virt rfl rfl rfl rfl rfl rfl rfl (Nat.le_of_ble_eq_true rfl) (fun _ q => by cases q) (r_ser hp) ?_
      try refine R_top (y := nI _) (by assumption) ?_
      refine R_icT (pc' := 40) rfl rfl (h2) ?_
      refine R_iconst (y := nI 0) rfl (by decide) ?_
      exact R_iret rfl rfl (by first | trivial | exact Or.inl rfl | exact Or.inr rfl | assumption) ⟨rfl, rfl⟩
  · refine CalR_of (md := md_X9_remembers) (d := d + 1) rfl (Nat.le_of_ble_eq_true rfl) ?_
    show WR (CalR (d + 1)) t_X9_remembers 9 (some .boolean) _ 0 [(0, .ref 0), (1, .int (nI a)), (2, .int (nI k)), (3, .int y)] [] _
    refine R_aload_n rfl rfl ?_
    refine R_getA rfl rfl (Or.inl rfl) ?_
    refine R_iload_n rfl rfl ?_
    refine R_iald rfl rfl rfl (show _ < 2000 from by omega) ?_
    try refine R_top (y := nI _) (by assumption) ?_
    refine R_iload_n rfl rfl ?_
    refine R_icF rfl (h1) ?_
    refine R_iconst (y := nI 0) rfl (by decide) ?_
    exact R_iret rfl rfl (by first | trivial | exact Or.inl rfl | exact Or.inr rfl | assumption) ⟨rfl, rfl⟩
end
section
/-! ===== the reference: meet ===== -/
def nmc (M : Mem) (a i n : Nat) : Mem := fun k => if k = 50 then (fun j => if 40 * a ≤ j ∧ j < 40 * a + n then M 34 (40 * i + (j - 40 * a)) else M 50 j) else M k
theorem nmc_0 (M : Mem) (a i : Nat) : nmc M a i 0 = M := by
  funext k j
  unfold nmc
  by_cases h : k = 50
  · subst h
    rw [if_pos rfl]
    exact if_neg (by omega)
  · rw [if_neg h]
theorem nmc_s (M : Mem) (a i s : Nat) : up2 (nmc M a i s) 50 (40 * a + s) (M 34 (40 * i + s)) = nmc M a i (s + 1) := by
  funext k j
  unfold up2 upd
  by_cases h : k = 50
  · subst h
    rw [if_pos rfl]
    show (if j = 40 * a + s then M 34 (40 * i + s) else if 40 * a ≤ j ∧ j < 40 * a + s then M 34 (40 * i + (j - 40 * a)) else M 50 j) = (if 40 * a ≤ j ∧ j < 40 * a + (s + 1) then M 34 (40 * i + (j - 40 * a)) else M 50 j)
    by_cases hj : j = 40 * a + s
    · subst hj
      rw [if_pos rfl, if_pos (by omega)]
      congr 1
      omega
    · rw [if_neg hj]
      by_cases h2 : 40 * a ≤ j ∧ j < 40 * a + s
      · rw [if_pos h2, if_pos (by omega)]
      · rw [if_neg h2, if_neg (by omega)]
  · rw [if_neg h]
    unfold nmc
    rw [if_neg h, if_neg h]
theorem WR_eq {C : Rrel} {t : List (Nat × Instr × Nat)} {oc : Nat} {rt : Option FieldType} {Qr : Option Value → Mem → Prop} {pc : Nat} {lv : Lv} {st : List Value} {M M' : Mem} (h : M = M') (k : WR C t oc rt Qr pc lv st M') : WR C t oc rt Qr pc lv st M := h ▸ k
def mtl (M : Mem) (s n a k i : Nat) : Mem := if k = 2 then nmc (up2 (up2 (up2 (up2 M 47 a (nI k)) 51 a (nI (s + 1))) 48 a (serA M (M 31 i))) 49 a (nI n)) a i n else up2 (up2 (up2 M 47 a (nI k)) 51 a (nI (s + 1))) 48 a (serA M (M 25 k))
theorem r_meetT {d : Nat} {M : Mem} {a k i n s : Nat} {y : Int32} (ha : a < 2000) (hk : k < 4) (hp : M 25 k = -1 ∨ ∃ i, i < 1500 ∧ M 25 k = nI i) (hi : i < 1500) (hn : M 32 i = nI n) (hn4 : n ≤ 40) (hpi : M 31 i = -1 ∨ ∃ j, j < 1500 ∧ M 31 i = nI j) (hy : k = 2 → y = nI i) (hs : M 11 0 = nI s) : WR (CalR (d + 1)) t_X9_meet 9 none (fun v' M' => v' = none ∧ M' = mtl M s n a k i) 40 [(0, .ref 0), (1, .int (nI a)), (2, .int (nI k)), (3, .int y)] [] M := by
  by_cases hk2 : k = 2
  · have hyy := hy hk2
    subst hk2
    subst hyy
    unfold mtl
    rw [if_pos rfl]
    refine R_aload_n rfl rfl ?_
    refine R_getA rfl rfl (Or.inl rfl) ?_
    refine R_iload_n rfl rfl ?_
    refine R_iload_n rfl rfl ?_
    refine R_iast rfl rfl rfl (show _ < 2000 from by omega) ?_
    refine R_aload_n rfl rfl ?_
    refine R_getA rfl rfl (Or.inl rfl) ?_
    refine R_iload_n rfl rfl ?_
    refine R_aload_n rfl rfl ?_
    refine R_getI rfl rfl (Or.inl rfl) ?_
    try refine R_top (y := nI _) (by assumption) ?_
    refine R_iconst (y := nI 1) rfl (by decide) ?_
    first | refine R_iaddN rfl ?_ | refine R_iadd rfl ?_
    refine R_iast rfl rfl rfl (show _ < 2000 from by omega) ?_
    refine R_iload_n rfl rfl ?_
    refine R_iconst (y := nI 2) rfl (by decide) ?_
    refine R_icT (pc' := 81) rfl rfl (by first | assumption | exact icT (by decide) | exact ic_T (by omega) (by omega) (by simp only [icN, not_true_eq_false, not_false_eq_true] <;> omega) | exact ic_T0 (by omega) (by simp only [icN, not_true_eq_false, not_false_eq_true] <;> omega)) ?_
    refine R_aload_n rfl rfl ?_
    refine R_getA rfl rfl (Or.inl rfl) ?_
    refine R_iload_n rfl rfl ?_
    refine R_aload_n rfl rfl ?_
    refine R_aload_n rfl rfl ?_
    refine R_getA rfl rfl (Or.inl rfl) ?_
    refine R_iload_n rfl rfl ?_
    refine R_iald rfl rfl rfl (show _ < 1500 from by omega) ?_
    try refine R_top (y := nI _) (by assumption) ?_
    refine R_virt rfl rfl rfl rfl rfl rfl rfl (Nat.le_of_ble_eq_true rfl) (fun _ q => by cases q) (r_ser hpi) ?_
    try refine R_top (y := nI _) (by assumption) ?_
    refine R_iast rfl rfl rfl (show _ < 2000 from by omega) ?_
    refine R_aload_n rfl rfl ?_
    refine R_getA rfl rfl (Or.inl rfl) ?_
    refine R_iload_n rfl rfl ?_
    refine R_aload_n rfl rfl ?_
    refine R_getA rfl rfl (Or.inl rfl) ?_
    refine R_iload_n rfl rfl ?_
    refine R_iald rfl rfl rfl (show _ < 1500 from by omega) ?_
    try refine R_top (y := nI _) (by assumption) ?_
    refine R_iast rfl rfl rfl (show _ < 2000 from by omega) ?_
    refine R_iconst (y := nI 0) rfl (by decide) ?_
    refine R_istore (lv' := [(4, _), (0, _), (1, _), (2, _), (3, _)]) rfl rfl ?_
    refine WR_eq (nmc_0 _ a i).symm ?_
    have h3 : (up2 (up2 (up2 (up2 M 47 a (nI 2)) 51 a (nI (s + 1))) 48 a (serA M (M 31 i))) 49 a (nI n)) 32 i = nI n := hn
    refine dn_up (P := fun q => WR (CalR (d + 1)) t_X9_meet 9 none (fun v' M' => v' = none ∧ M' = nmc (up2 (up2 (up2 (up2 M 47 a (nI 2)) 51 a (nI (s + 1))) 48 a (serA M (M 31 i))) 49 a (nI n)) a i n) 112 [(4, .int (nI q)), (0, .ref 0), (1, .int (nI a)), (2, .int (nI 2)), (3, .int (nI i))] [] (nmc (up2 (up2 (up2 (up2 M 47 a (nI 2)) 51 a (nI (s + 1))) 48 a (serA M (M 31 i))) 49 a (nI n)) a i q)) (N := n) ?_ ?_ 0 (Nat.zero_le _)
    · generalize up2 (up2 (up2 (up2 M 47 a (nI 2)) 51 a (nI (s + 1))) 48 a (serA M (M 31 i))) 49 a (nI n) = M3 at h3 ⊢
      refine R_iload rfl rfl ?_
      refine R_aload_n rfl rfl ?_
      refine R_getA rfl rfl (Or.inl rfl) ?_
      refine R_iload_n rfl rfl ?_
      refine R_iald rfl rfl rfl (show _ < 1500 from by omega) ?_
      try refine R_top (y := nI _) (by assumption) ?_
      refine R_icT (pc' := 153) rfl rfl (by first | assumption | exact icT (by decide) | exact ic_T (by omega) (by omega) (by simp only [icN, not_true_eq_false, not_false_eq_true] <;> omega) | exact ic_T0 (by omega) (by simp only [icN, not_true_eq_false, not_false_eq_true] <;> omega)) ?_
      exact R_ret rfl rfl ⟨rfl, rfl⟩
    · generalize up2 (up2 (up2 (up2 M 47 a (nI 2)) 51 a (nI (s + 1))) 48 a (serA M (M 31 i))) 49 a (nI n) = M3 at h3 ⊢
      intro q hq nx
      refine R_iload rfl rfl ?_
      refine R_aload_n rfl rfl ?_
      refine R_getA rfl rfl (Or.inl rfl) ?_
      refine R_iload_n rfl rfl ?_
      refine R_iald rfl rfl rfl (show _ < 1500 from by omega) ?_
      try refine R_top (y := nI _) (by assumption) ?_
      refine R_icF rfl (by first | assumption | exact icF (by decide) | exact ic_F (by omega) (by omega) (by simp only [icN, not_true_eq_false, not_false_eq_true] <;> omega) | exact ic_F0 (by omega) (by simp only [icN, not_true_eq_false, not_false_eq_true] <;> omega)) ?_
      refine R_aload_n rfl rfl ?_
      refine R_getA rfl rfl (Or.inl rfl) ?_
      refine R_bipush (y := nI 40) rfl (by decide) ?_
      refine R_iload_n rfl rfl ?_
      first | refine R_imulN rfl ?_ | refine R_imul rfl ?_
      refine R_iload rfl rfl ?_
      first | refine R_iaddN rfl ?_ | refine R_iadd rfl ?_
      refine R_aload_n rfl rfl ?_
      refine R_getA rfl rfl (Or.inl rfl) ?_
      refine R_bipush (y := nI 40) rfl (by decide) ?_
      refine R_iload_n rfl rfl ?_
      first | refine R_imulN rfl ?_ | refine R_imul rfl ?_
      refine R_iload rfl rfl ?_
      first | refine R_iaddN rfl ?_ | refine R_iadd rfl ?_
      refine R_iald rfl rfl rfl (show _ < 60000 from by omega) ?_
      try refine R_top (y := nI _) (by assumption) ?_
      refine R_iast rfl rfl rfl (show _ < 80000 from by omega) ?_
      refine WR_eq (show up2 (nmc M3 a i q) 50 (40 * a + q) (nmc M3 a i q 34 (40 * i + q)) = nmc M3 a i (q + 1) from nmc_s M3 a i q) ?_
      refine R_iinc (lv' := [(4, _), (0, _), (1, _), (2, _), (3, _)]) rfl rfl (by exact nI_1 _) rfl ?_
      refine R_goto (pc' := 112) rfl rfl ?_
      exact nx
  · unfold mtl
    rw [if_neg hk2]
    refine R_aload_n rfl rfl ?_
    refine R_getA rfl rfl (Or.inl rfl) ?_
    refine R_iload_n rfl rfl ?_
    refine R_iload_n rfl rfl ?_
    refine R_iast rfl rfl rfl (show _ < 2000 from by omega) ?_
    refine R_aload_n rfl rfl ?_
    refine R_getA rfl rfl (Or.inl rfl) ?_
    refine R_iload_n rfl rfl ?_
    refine R_aload_n rfl rfl ?_
    refine R_getI rfl rfl (Or.inl rfl) ?_
    try refine R_top (y := nI _) (by assumption) ?_
    refine R_iconst (y := nI 1) rfl (by decide) ?_
    first | refine R_iaddN rfl ?_ | refine R_iadd rfl ?_
    refine R_iast rfl rfl rfl (show _ < 2000 from by omega) ?_
    refine R_iload_n rfl rfl ?_
    refine R_iconst (y := nI 2) rfl (by decide) ?_
    refine R_icF rfl (by first | assumption | exact icF (by decide) | exact ic_F (by omega) (by omega) (by simp only [icN, not_true_eq_false, not_false_eq_true] <;> omega) | exact ic_F0 (by omega) (by simp only [icN, not_true_eq_false, not_false_eq_true] <;> omega)) ?_
    refine R_aload_n rfl rfl ?_
    refine R_getA rfl rfl (Or.inl rfl) ?_
    refine R_iload_n rfl rfl ?_
    refine R_aload_n rfl rfl ?_
    refine R_aload_n rfl rfl ?_
    refine R_getA rfl rfl (Or.inl rfl) ?_
    refine R_iload_n rfl rfl ?_
    refine R_iald rfl rfl rfl (show _ < 4 from by omega) ?_
    try refine R_top (y := nI _) (by assumption) ?_
    refine R_virt rfl rfl rfl rfl rfl rfl rfl (Nat.le_of_ble_eq_true rfl) (fun _ q => by cases q) (r_ser hp) ?_
    try refine R_top (y := nI _) (by assumption) ?_
    refine R_iast rfl rfl rfl (show _ < 2000 from by omega) ?_
    exact R_ret rfl rfl ⟨rfl, rfl⟩
theorem clm_53 (M : Mem) (x t : Int32) : ∀ (n : Nat) (c : Int32), clm (up2 M 53 0 x) t n c = clm M t n c
  | 0, c => rfl
  | n + 1, c => by
    unfold clm
    rw [clm_53 M x t n]
    rfl
/-- behind a site's step: b tells a hit -/
def metM (M : Mem) (s n a k i : Nat) (b : Bool) : Mem := mtl (if b = true then up2 (up2 M 53 0 (M 53 0 + 1)) 52 0 (M 52 0 + 1) else up2 M 53 0 (M 53 0 + 1)) s n a k i
theorem r_meet {d : Nat} {M : Mem} {lv : Nat → Prop} {rk : Nat → Nat} {a k i n s N : Nat} {y : Int32} {b : Bool} (hd : dwn M lv rk) (ha : a < 2000) (hk : k < 4) (hp : M 25 k = -1 ∨ ∃ i, i < 1500 ∧ M 25 k = nI i) (hi : i < 1500) (hn : M 32 i = nI n) (hn4 : n ≤ 40) (hpi : M 31 i = -1 ∨ ∃ j, j < 1500 ∧ M 31 i = nI j) (hy : k = 2 → y = nI i) (hs : M 11 0 = nI s) (hc : abv M k y = -1 ∨ ∃ i, lv i ∧ abv M k y = nI i ∧ rk i < N) (hb : b = true ↔ (rmb M a k i ∧ clm M (M 51 a) (N + 1) (abv M k y) = true)) : CalR (d + 3) j_X9_meet [.ref 0, .int (nI a), .int (nI k), .int y] M none (metM M s n a k i b) := by
  have hd1 : dwn (up2 M 53 0 (M 53 0 + 1)) lv rk := hd
  refine CalR_of (md := md_X9_meet) (d := d + 2) rfl (Nat.le_of_ble_eq_true rfl) ?_
  show WR (CalR (d + 2)) t_X9_meet 9 none _ 0 [(0, .ref 0), (1, .int (nI a)), (2, .int (nI k)), (3, .int y)] [] _
  unfold metM
  by_cases hr : rmb M a k i
  · cases hcl : clm M (M 51 a) (N + 1) (abv M k y) with
    | true =>
      have e : b = true := hb.mpr ⟨hr, hcl⟩
      subst e
      rw [if_pos rfl]
      have hv : b2i (clm (up2 M 53 0 (M 53 0 + 1)) (M 51 a) (N + 1) (abv M k y)) = nI 1 := by rw [show clm (up2 M 53 0 (M 53 0 + 1)) (M 51 a) (N + 1) (abv M k y) = clm M (M 51 a) (N + 1) (abv M k y) from clm_53 _ _ _ _ _, hcl]; rfl
      refine R_aload_n rfl rfl ?_
      refine R_dup rfl ?_
      refine R_getI rfl rfl (Or.inl rfl) ?_
      try refine R_top (y := nI _) (by assumption) ?_
      refine R_iconst (y := nI 1) rfl (by decide) ?_
      first | refine R_iaddN rfl ?_ | refine R_iadd rfl ?_
      refine R_put rfl rfl rfl ?_
      refine R_aload_n rfl rfl ?_
      refine R_iload_n rfl rfl ?_
      refine R_iload_n rfl rfl ?_
      refine R_iload_n rfl rfl ?_
      refine R_virt rfl rfl rfl rfl rfl rfl rfl (Nat.le_of_ble_eq_true rfl) (fun _ q => by cases q) (r_rem1 ha hk hp hi hn hn4 hpi hy hr) ?_
      try refine R_top (y := nI _) (by assumption) ?_
      refine R_ifF rfl (by first | assumption | exact icF (by decide) | exact ic_F (by omega) (by omega) (by simp only [icN, not_true_eq_false, not_false_eq_true] <;> omega) | exact ic_F0 (by omega) (by simp only [icN, not_true_eq_false, not_false_eq_true] <;> omega)) ?_
      refine R_aload_n rfl rfl ?_
      refine R_iload_n rfl rfl ?_
      refine R_iload_n rfl rfl ?_
      refine R_iload_n rfl rfl ?_
      refine R_virt rfl rfl rfl rfl rfl rfl rfl (Nat.le_of_ble_eq_true rfl) (fun _ q => by cases q) (r_isCalm (N := N) hd1 ha hk (fun q => ⟨i, hi, hy q⟩) hc) ?_
      try refine R_top (y := nI _) (by assumption) ?_
      refine R_ifF rfl (by first | assumption | exact icF (by decide) | exact ic_F (by omega) (by omega) (by simp only [icN, not_true_eq_false, not_false_eq_true] <;> omega) | exact ic_F0 (by omega) (by simp only [icN, not_true_eq_false, not_false_eq_true] <;> omega)) ?_
      refine R_aload_n rfl rfl ?_
      refine R_dup rfl ?_
      refine R_getI rfl rfl (Or.inl rfl) ?_
      try refine R_top (y := nI _) (by assumption) ?_
      refine R_iconst (y := nI 1) rfl (by decide) ?_
      first | refine R_iaddN rfl ?_ | refine R_iadd rfl ?_
      refine R_put rfl rfl rfl ?_
      exact r_meetT ha hk hp hi hn hn4 hpi hy hs
    | false =>
      have e : b = false := by
        cases b with
        | false => rfl
        | true => rw [(hb.mp rfl).2] at hcl; cases hcl
      subst e
      rw [if_neg (by decide)]
      have hv : b2i (clm (up2 M 53 0 (M 53 0 + 1)) (M 51 a) (N + 1) (abv M k y)) = nI 0 := by rw [show clm (up2 M 53 0 (M 53 0 + 1)) (M 51 a) (N + 1) (abv M k y) = clm M (M 51 a) (N + 1) (abv M k y) from clm_53 _ _ _ _ _, hcl]; rfl
      refine R_aload_n rfl rfl ?_
      refine R_dup rfl ?_
      refine R_getI rfl rfl (Or.inl rfl) ?_
      try refine R_top (y := nI _) (by assumption) ?_
      refine R_iconst (y := nI 1) rfl (by decide) ?_
      first | refine R_iaddN rfl ?_ | refine R_iadd rfl ?_
      refine R_put rfl rfl rfl ?_
      refine R_aload_n rfl rfl ?_
      refine R_iload_n rfl rfl ?_
      refine R_iload_n rfl rfl ?_
      refine R_iload_n rfl rfl ?_
      refine R_virt rfl rfl rfl rfl rfl rfl rfl (Nat.le_of_ble_eq_true rfl) (fun _ q => by cases q) (r_rem1 ha hk hp hi hn hn4 hpi hy hr) ?_
      try refine R_top (y := nI _) (by assumption) ?_
      refine R_ifF rfl (by first | assumption | exact icF (by decide) | exact ic_F (by omega) (by omega) (by simp only [icN, not_true_eq_false, not_false_eq_true] <;> omega) | exact ic_F0 (by omega) (by simp only [icN, not_true_eq_false, not_false_eq_true] <;> omega)) ?_
      refine R_aload_n rfl rfl ?_
      refine R_iload_n rfl rfl ?_
      refine R_iload_n rfl rfl ?_
      refine R_iload_n rfl rfl ?_
      refine R_virt rfl rfl rfl rfl rfl rfl rfl (Nat.le_of_ble_eq_true rfl) (fun _ q => by cases q) (r_isCalm (N := N) hd1 ha hk (fun q => ⟨i, hi, hy q⟩) hc) ?_
      try refine R_top (y := nI _) (by assumption) ?_
      refine R_ifT (pc' := 40) rfl rfl (by first | assumption | exact icT (by decide) | exact ic_T (by omega) (by omega) (by simp only [icN, not_true_eq_false, not_false_eq_true] <;> omega) | exact ic_T0 (by omega) (by simp only [icN, not_true_eq_false, not_false_eq_true] <;> omega)) ?_
      exact r_meetT ha hk hp hi hn hn4 hpi hy hs
  · have e : b = false := by
      cases b with
      | false => rfl
      | true => exact absurd (hb.mp rfl).1 hr
    subst e
    rw [if_neg (by decide)]
    refine R_aload_n rfl rfl ?_
    refine R_dup rfl ?_
    refine R_getI rfl rfl (Or.inl rfl) ?_
    try refine R_top (y := nI _) (by assumption) ?_
    refine R_iconst (y := nI 1) rfl (by decide) ?_
    first | refine R_iaddN rfl ?_ | refine R_iadd rfl ?_
    refine R_put rfl rfl rfl ?_
    refine R_aload_n rfl rfl ?_
    refine R_iload_n rfl rfl ?_
    refine R_iload_n rfl rfl ?_
    refine R_iload_n rfl rfl ?_
    refine R_virt rfl rfl rfl rfl rfl rfl rfl (Nat.le_of_ble_eq_true rfl) (fun _ q => by cases q) (r_rem0 ha hk hp hi hn hn4 hpi hy hr) ?_
    try refine R_top (y := nI _) (by assumption) ?_
    refine R_ifT (pc' := 40) rfl rfl (by first | assumption | exact icT (by decide) | exact ic_T (by omega) (by omega) (by simp only [icN, not_true_eq_false, not_false_eq_true] <;> omega) | exact ic_T0 (by omega) (by simp only [icN, not_true_eq_false, not_false_eq_true] <;> omega)) ?_
    exact r_meetT ha hk hp hi hn hn4 hpi hy hs
end
section
/-! ===== a walk comes to one end ===== -/
set_option maxHeartbeats 4000000 in
theorem ins_ex {z b L : Nat} {xs : Nat → Int32} {C : Crel} {oc : Nat} {rt : Option FieldType} {Qr : Option Value → Hp → Prop} {K : Nat → Lv → List Value → Hp → Prop} {Kx : Option Value → Hp → Nat → Lv → List Value → Hp → Prop} {pc : Nat} {lv : Lv} {st : List Value} {σ : Hp} {i : Instr}
    (hK : ∀ pc lv st σ', K pc lv st σ' → ∃ v σ1, Qr v σ1 ∧ Kx v σ1 pc lv st σ')
    (h : ins z b L xs C oc rt Qr K pc lv st σ i) : ∃ v σ1, Qr v σ1 ∧ ins z b L xs C oc rt (fun v' σ' => v' = v ∧ σ' = σ1) (Kx v σ1) pc lv st σ i := by
  cases i
  case getfield i =>
    simp only [ins] at h ⊢
    split at h
    · obtain ⟨fs, v, h1, h2, h⟩ := h
      obtain ⟨v9, σ9, q9, k9⟩ := hK _ _ _ _ h
      exact ⟨v9, σ9, q9, fs, v, h1, h2, k9⟩
    · exact h.elim
  case putfield i =>
    simp only [ins] at h ⊢
    split at h
    · obtain ⟨fs, h1, h2, h3, h⟩ := h
      obtain ⟨v9, σ9, q9, k9⟩ := hK _ _ _ _ h
      exact ⟨v9, σ9, q9, fs, h1, h2, h3, k9⟩
    · exact h.elim
  case iaload =>
    simp only [ins] at h ⊢
    split at h
    · obtain ⟨n, f, h1, h2, h⟩ := h
      obtain ⟨v9, σ9, q9, k9⟩ := hK _ _ _ _ h
      exact ⟨v9, σ9, q9, n, f, h1, h2, k9⟩
    · exact h.elim
  case laload =>
    simp only [ins] at h ⊢
    split at h
    · obtain ⟨n, f, h1, h2, h⟩ := h
      obtain ⟨v9, σ9, q9, k9⟩ := hK _ _ _ _ h
      exact ⟨v9, σ9, q9, n, f, h1, h2, k9⟩
    · exact h.elim
  case baload =>
    simp only [ins] at h ⊢
    split at h
    · obtain ⟨n, f, h1, h2, h⟩ := h
      obtain ⟨v9, σ9, q9, k9⟩ := hK _ _ _ _ h
      exact ⟨v9, σ9, q9, n, f, h1, h2, k9⟩
    · exact h.elim
  case aaload =>
    simp only [ins] at h ⊢
    split at h
    · obtain ⟨t, n, f, h1, h2, h3, h⟩ := h
      obtain ⟨v9, σ9, q9, k9⟩ := hK _ _ _ _ h
      exact ⟨v9, σ9, q9, t, n, f, h1, h2, h3, k9⟩
    · exact h.elim
  case iastore =>
    simp only [ins] at h ⊢
    split at h
    · obtain ⟨n, f, h1, h2, h3, h⟩ := h
      obtain ⟨v9, σ9, q9, k9⟩ := hK _ _ _ _ h
      exact ⟨v9, σ9, q9, n, f, h1, h2, h3, k9⟩
    · exact h.elim
  case lastore =>
    simp only [ins] at h ⊢
    split at h
    · obtain ⟨n, f, h1, h2, h⟩ := h
      obtain ⟨v9, σ9, q9, k9⟩ := hK _ _ _ _ h
      exact ⟨v9, σ9, q9, n, f, h1, h2, k9⟩
    · exact h.elim
  case bastore =>
    simp only [ins] at h ⊢
    split at h
    · obtain ⟨n, f, h1, ⟨h2, h⟩ | ⟨h2, h⟩⟩ := h
      · obtain ⟨v9, σ9, q9, k9⟩ := hK _ _ _ _ h
        exact ⟨v9, σ9, q9, n, f, h1, Or.inl ⟨h2, k9⟩⟩
      · obtain ⟨v9, σ9, q9, k9⟩ := hK _ _ _ _ h
        exact ⟨v9, σ9, q9, n, f, h1, Or.inr ⟨h2, k9⟩⟩
    · exact h.elim
  case aastore =>
    simp only [ins] at h ⊢
    split at h
    · obtain ⟨t, n, f, fs, h1, h2, h3, h⟩ := h
      obtain ⟨v9, σ9, q9, k9⟩ := hK _ _ _ _ h
      exact ⟨v9, σ9, q9, t, n, f, fs, h1, h2, h3, k9⟩
    · obtain ⟨t, n, f, h1, h2, h3, h⟩ := h
      obtain ⟨v9, σ9, q9, k9⟩ := hK _ _ _ _ h
      exact ⟨v9, σ9, q9, t, n, f, h1, h2, h3, k9⟩
    · exact h.elim
  case arraylength =>
    simp only [ins] at h ⊢
    split at h
    · obtain ⟨t, n, x, h1, h2, h⟩ := h
      obtain ⟨v9, σ9, q9, k9⟩ := hK _ _ _ _ h
      exact ⟨v9, σ9, q9, t, n, x, h1, h2, k9⟩
    · exact h.elim
  case newarray t =>
    simp only [ins] at h ⊢
    split at h
    · obtain ⟨h1, h2, h⟩ := h
      cases t <;> first
        | exact h.elim
        | (obtain ⟨v9, σ9, q9, k9⟩ := hK _ _ _ _ h
           exact ⟨v9, σ9, q9, h1, h2, k9⟩)
    · exact h.elim
  case anewarray i =>
    simp only [ins] at h ⊢
    split at h
    · obtain ⟨h1, h2, h⟩ := h
      obtain ⟨v9, σ9, q9, k9⟩ := hK _ _ _ _ h
      exact ⟨v9, σ9, q9, h1, h2, k9⟩
    · exact h.elim
  case new i =>
    simp only [ins] at h ⊢
    split at h
    · obtain ⟨v9, σ9, q9, k9⟩ := hK _ _ _ _ h
      exact ⟨v9, σ9, q9, k9⟩
    · exact h.elim
  case if_acmp c f =>
    simp only [ins] at h ⊢
    split at h
    · obtain ⟨rx, ry, h1, h2, h⟩ := h
      cases c with
      | eq =>
        by_cases q : rx = ry
        · obtain ⟨v9, σ9, q9, k9⟩ := hK _ _ _ _ (h.1 q)
          exact ⟨v9, σ9, q9, rx, ry, h1, h2, fun _ => k9, fun q2 => absurd q q2⟩
        · obtain ⟨v9, σ9, q9, k9⟩ := hK _ _ _ _ (h.2 q)
          exact ⟨v9, σ9, q9, rx, ry, h1, h2, fun q2 => absurd q2 q, fun _ => k9⟩
      | ne =>
        by_cases q : rx = ry
        · obtain ⟨v9, σ9, q9, k9⟩ := hK _ _ _ _ (h.2 q)
          exact ⟨v9, σ9, q9, rx, ry, h1, h2, fun q2 => absurd q q2, fun _ => k9⟩
        · obtain ⟨v9, σ9, q9, k9⟩ := hK _ _ _ _ (h.1 q)
          exact ⟨v9, σ9, q9, rx, ry, h1, h2, fun _ => k9, fun q2 => absurd q2 q⟩
    · exact h.elim
  case ifCond c f =>
    simp only [ins] at h ⊢
    split at h
    · rename_i x r
      by_cases q : icc c x 0
      · obtain ⟨v9, σ9, q9, k9⟩ := hK _ _ _ _ (h.1 q)
        exact ⟨v9, σ9, q9, fun _ => k9, fun q2 => absurd q q2⟩
      · obtain ⟨v9, σ9, q9, k9⟩ := hK _ _ _ _ (h.2 q)
        exact ⟨v9, σ9, q9, fun q2 => absurd q2 q, fun _ => k9⟩
    · exact h.elim
  case if_icmp c f =>
    simp only [ins] at h ⊢
    split at h
    · rename_i y x r
      by_cases q : icc c x y
      · obtain ⟨v9, σ9, q9, k9⟩ := hK _ _ _ _ (h.1 q)
        exact ⟨v9, σ9, q9, fun _ => k9, fun q2 => absurd q q2⟩
      · obtain ⟨v9, σ9, q9, k9⟩ := hK _ _ _ _ (h.2 q)
        exact ⟨v9, σ9, q9, fun q2 => absurd q2 q, fun _ => k9⟩
    · exact h.elim
  case idiv =>
    simp only [ins] at h ⊢
    split at h
    · obtain ⟨h1, h⟩ := h
      obtain ⟨v9, σ9, q9, k9⟩ := hK _ _ _ _ h
      exact ⟨v9, σ9, q9, h1, k9⟩
    · exact h.elim
  case ldiv =>
    simp only [ins] at h ⊢
    split at h
    · obtain ⟨h1, h⟩ := h
      obtain ⟨v9, σ9, q9, k9⟩ := hK _ _ _ _ h
      exact ⟨v9, σ9, q9, h1, k9⟩
    · exact h.elim
  case lrem =>
    simp only [ins] at h ⊢
    split at h
    · obtain ⟨h1, h⟩ := h
      obtain ⟨v9, σ9, q9, k9⟩ := hK _ _ _ _ h
      exact ⟨v9, σ9, q9, h1, k9⟩
    · exact h.elim
  case dup =>
    simp only [ins] at h ⊢
    split at h
    · obtain ⟨h1, h⟩ := h
      obtain ⟨v9, σ9, q9, k9⟩ := hK _ _ _ _ h
      exact ⟨v9, σ9, q9, h1, k9⟩
    · exact h.elim
  case pop =>
    simp only [ins] at h ⊢
    split at h
    · obtain ⟨h1, h⟩ := h
      obtain ⟨v9, σ9, q9, k9⟩ := hK _ _ _ _ h
      exact ⟨v9, σ9, q9, h1, k9⟩
    · exact h.elim
  case dup2 =>
    simp only [ins] at h ⊢
    split at h
    · obtain ⟨h1, h2, h⟩ := h
      obtain ⟨v9, σ9, q9, k9⟩ := hK _ _ _ _ h
      exact ⟨v9, σ9, q9, h1, h2, k9⟩
    · exact h.elim
  case ireturn =>
    simp only [ins] at h ⊢
    split at h
    · exact ⟨_, _, h.2, h.1, rfl, rfl⟩
    · exact h.elim
  case lreturn =>
    simp only [ins] at h ⊢
    split at h
    · exact ⟨_, _, h, rfl, rfl⟩
    · exact h.elim
  case areturn =>
    simp only [ins] at h ⊢
    split at h
    · exact ⟨_, _, h, rfl, rfl⟩
    · exact ⟨_, _, h, rfl, rfl⟩
    · exact h.elim
  case return_ =>
    simp only [ins] at h ⊢
    split at h
    · exact ⟨_, _, h, rfl, rfl⟩
    · exact h.elim
  case invokevirtual i =>
    simp only [ins] at h ⊢
    split at h
    · split at h
      · obtain ⟨a, fs, v, σ1, h1, h2, h3, h4, h⟩ := h
        obtain ⟨v9, σ9, q9, k9⟩ := hK _ _ _ _ h
        exact ⟨v9, σ9, q9, a, fs, v, σ1, h1, h2, h3, h4, k9⟩
      · exact h.elim
    · exact h.elim
  case invokestatic i =>
    simp only [ins] at h ⊢
    split at h
    · split at h
      · obtain ⟨h1, h2, h3, h4, ⟨n0, n1, f, g, g0, g1, g2, g3, g4, h⟩ | ⟨n0, n1, f, g, g0, g1, g2, g3, h⟩⟩ := h
        · obtain ⟨v9, σ9, q9, k9⟩ := hK _ _ _ _ h
          exact ⟨v9, σ9, q9, h1, h2, h3, h4, Or.inl ⟨n0, n1, f, g, g0, g1, g2, g3, g4, k9⟩⟩
        · obtain ⟨v9, σ9, q9, k9⟩ := hK _ _ _ _ h
          exact ⟨v9, σ9, q9, h1, h2, h3, h4, Or.inr ⟨n0, n1, f, g, g0, g1, g2, g3, k9⟩⟩
      · exact h.elim
    · split at h
      · obtain ⟨v9, σ9, q9, k9⟩ := hK _ _ _ _ h.2
        exact ⟨v9, σ9, q9, h.1, k9⟩
      · exact h.elim
    · split at h
      · obtain ⟨v9, σ9, q9, k9⟩ := hK _ _ _ _ h.2
        exact ⟨v9, σ9, q9, h.1, k9⟩
      · exact h.elim
    · obtain ⟨hk, h⟩ := h
      split at h
      · obtain ⟨v, σ1, h1, h2, h3, h⟩ := h
        obtain ⟨v9, σ9, q9, k9⟩ := hK _ _ _ _ h
        exact ⟨v9, σ9, q9, hk, v, σ1, h1, h2, h3, k9⟩
      · exact h.elim
    · exact h.elim
  case invokespecial i =>
    simp only [ins] at h ⊢
    split at h
    · split at h
      · obtain ⟨v9, σ9, q9, k9⟩ := hK _ _ _ _ h.2
        exact ⟨v9, σ9, q9, h.1, k9⟩
      · exact h.elim
    · obtain ⟨hk, h⟩ := h
      split at h
      · obtain ⟨a, v, σ1, h1, h2, h3, h⟩ := h
        obtain ⟨v9, σ9, q9, k9⟩ := hK _ _ _ _ h
        exact ⟨v9, σ9, q9, hk, a, v, σ1, h1, h2, h3, k9⟩
      · exact h.elim
    · exact h.elim
  all_goals first
    | exact False.elim h
    | exact hK _ _ _ _ h
    | (simp only [ins] at h ⊢
       split at h <;> first
        | exact h.elim
        | exact hK _ _ _ _ h)
theorem wp_ex {z b L : Nat} {xs : Nat → Int32} {C : Crel} {t : List (Nat × Instr × Nat)} {oc : Nat} {rt : Option FieldType} {Qr : Option Value → Hp → Prop} :
    ∀ (n pc : Nat) (lv : Lv) (st : List Value) (σ : Hp), wp z b L xs C t oc rt Qr n pc lv st σ → ∃ v σ1, Qr v σ1 ∧ wp z b L xs C t oc rt (fun v' σ' => v' = v ∧ σ' = σ1) n pc lv st σ
  | 0, _, _, _, _, h => h.elim
  | n + 1, pc, lv, st, σ, h => by
    simp only [wp] at h ⊢
    split at h
    · exact ins_ex (Kx := fun v σ1 => wp z b L xs C t oc rt (fun v' σ' => v' = v ∧ σ' = σ1) n) (fun pc lv st σ' h => wp_ex n pc lv st σ' h) h
    · exact h.elim
end
section
/-! ===== the class's objects by kind and number: what a heap holds of them =====
kinds: 0 the machine, 1 Code, 2 Roots, 3 Heap, 4 Output, 5 Word, 6 Memory, 7 Frame, 8 Thing; arrays: 9 Code.words, 10 Code.places, 11 Roots.values, 12 Roots.globals, 13 Roots.protos, 14 Heap.pool, 15 Output.values, 16 Memory.names, 17 Frame.values, 18 Thing.names, 19 Thing.values -/
abbrev CS : Type := (Nat → Nat → Nat → Int32) × (Nat → Nat → Nat → Int64) × (Nat → Nat → Nat → Option Nat) × (Nat → Nat → Nat) × (Nat → Nat → Bool) × Nat × Nat
/-- ints: kind, field or place, number -/
def cI (S : CS) : Nat → Nat → Nat → Int32 := S.1
def cJ (S : CS) : Nat → Nat → Nat → Int64 := S.2.1
def cP (S : CS) : Nat → Nat → Nat → Option Nat := S.2.2.1
/-- addresses; which there are; how many cells and slots there are in all -/
def cA (S : CS) : Nat → Nat → Nat := S.2.2.2.1
def cE (S : CS) : Nat → Nat → Bool := S.2.2.2.2.1
def cn (S : CS) : Nat := S.2.2.2.2.2.1
def cz (S : CS) : Nat := S.2.2.2.2.2.2
def up3 {α : Type} (f : Nat → Nat → Nat → α) (t k i : Nat) (x : α) : Nat → Nat → Nat → α := fun t' => if t' = t then (fun k' => if k' = k then (fun i' => if i' = i then x else f t k i') else f t k') else f t'
def upN {α : Type} (f : Nat → Nat → α) (t i : Nat) (x : α) : Nat → Nat → α := fun t' => if t' = t then (fun i' => if i' = i then x else f t i') else f t'
def setI (S : CS) (t k i : Nat) (x : Int32) : CS := (up3 S.1 t k i x, S.2)
def setJ (S : CS) (t k i : Nat) (x : Int64) : CS := (S.1, up3 S.2.1 t k i x, S.2.2)
def setP (S : CS) (t k i : Nat) (x : Option Nat) : CS := (S.1, S.2.1, up3 S.2.2.1 t k i x, S.2.2.2)
def tcl : List Nat := [8, 0, 5, 2, 4, 7, 3, 1, 6]
def akd : List Nat := [9, 9, 9, 9, 9, 9, 9, 9, 9, 4, 0, 1, 1, 5, 5, 1, 2, 1, 2, 1]
def lnt (np : Nat) : Nat → Nat := fun t => if t = 14 then np else ([0, 0, 0, 0, 0, 0, 0, 0, 0, 2000, 200, 1000, 16, 4, 0, 1000, 40, 17, 40, 40] : List Nat).getD t 0
def fval (S : CS) (t i k : Nat) : FieldType → Value
  | .int => .int (cI S t k i)
  | .boolean => .int (cI S t k i)
  | _ => va_rf (cP S t k i)
def ofs (S : CS) (t i : Nat) : List Value := (fTy.getD (tcl.getD t 99) []).mapIdx (fun k ty => fval S t i k ty)
def ccel (np : Nat) (S : CS) (t i : Nat) : va_E := if t < 9 then oB (tcl.getD t 99) (ofs S t i) else match akd.getD t 9 with
  | 0 => aI (lnt np t) (fun j => cI S t j i)
  | 1 => aJ (lnt np t) (fun j => cJ S t j i)
  | 2 => aB (lnt np t) (fun j => cI S t j i)
  | q => aR q (lnt np t) (fun j => cP S t j i)
/-- z: where the law's cells begin; np: the pool's length; i0, w0, G: cells that are not the class's -/
def Rl (z np i0 w0 : Nat) (G : Nat → Option va_E) (S : CS) (σ : Hp) : Prop :=
  (∀ t i, t < 20 → cE S t i = true → z ≤ cA S t i ∧ σ[cA S t i - z]? = some (ccel np S t i) ∧ (cA S t i - z < i0 ∨ i0 + w0 ≤ cA S t i - z)) ∧
  (∀ t i t' i', t < 20 → t' < 20 → cE S t i = true → cE S t' i' = true → cA S t i = cA S t' i' → t = t' ∧ i = i') ∧
  (∀ k, i0 ≤ k → k < i0 + w0 → σ[k]? = G k) ∧ σ.length = cn S ∧ szH σ = cz S ∧ i0 + w0 ≤ σ.length
theorem up3_ne {α : Type} {f : Nat → Nat → Nat → α} {t k i t' k' i' : Nat} {x : α} (h : ¬ (t' = t ∧ i' = i)) : up3 f t k i x t' k' i' = f t' k' i' := by
  unfold up3
  by_cases h1 : t' = t
  · subst h1
    by_cases h2 : k' = k
    · subst h2
      rw [if_pos rfl, if_pos rfl, if_neg (fun q => h ⟨rfl, q⟩)]
    · rw [if_pos rfl, if_neg h2]
  · rw [if_neg h1]
theorem up3_s {α : Type} {f : Nat → Nat → Nat → α} {t k i : Nat} {x : α} : up3 f t k i x t k i = x := by simp [up3]
theorem up3_k {α : Type} {f : Nat → Nat → Nat → α} {t k i k' : Nat} {x : α} (h : k' ≠ k) : up3 f t k i x t k' i = f t k' i := by simp [up3, h]
theorem ccel_congr {np : Nat} {S S' : CS} {t i : Nat} (h1 : ∀ k, cI S' t k i = cI S t k i) (h2 : ∀ k, cJ S' t k i = cJ S t k i) (h3 : ∀ k, cP S' t k i = cP S t k i) : ccel np S' t i = ccel np S t i := by
  have hf : ofs S' t i = ofs S t i := by
    unfold ofs
    congr 1
    funext k ty
    cases ty <;> simp [fval, h1, h3]
  unfold ccel
  simp only [hf, h1, h2, h3]
theorem ofs_get {S : CS} {t i k : Nat} {ty : FieldType} (h : (fTy.getD (tcl.getD t 99) [])[k]? = some ty) : (ofs S t i)[k]? = some (fval S t i k ty) := by
  unfold ofs
  rw [List.getElem?_mapIdx, h]
  rfl
theorem ofs_len (S : CS) (t i : Nat) : (ofs S t i).length = (fTy.getD (tcl.getD t 99) []).length := by simp [ofs]
theorem ofs_set {S S' : CS} {t i k : Nat} {v : Value} {ty : FieldType} (h : (fTy.getD (tcl.getD t 99) [])[k]? = some ty) (hv : fval S' t i k ty = v) (h1 : ∀ k', k' ≠ k → cI S' t k' i = cI S t k' i) (h3 : ∀ k', k' ≠ k → cP S' t k' i = cP S t k' i) : (ofs S t i).set k v = ofs S' t i := by
  apply List.ext_getElem?
  intro j
  have hk : k < (ofs S t i).length := by rw [ofs_len]; exact (List.getElem?_eq_some_iff.mp h).1
  by_cases hj : j = k
  · subst hj
    rw [List.getElem?_set_self hk, ofs_get h, hv]
  · rw [List.getElem?_set_ne (Ne.symm hj)]
    unfold ofs
    rw [List.getElem?_mapIdx, List.getElem?_mapIdx]
    congr 1
    funext ty'
    cases ty' <;> simp [fval, h1 j hj, h3 j hj]
theorem esz_ccel {np : Nat} (S S' : CS) (t i : Nat) : esz (ccel np S t i) = esz (ccel np S' t i) := by
  unfold ccel
  split
  · rfl
  · split <;> rfl
/-- behind a write into one of them -/
theorem Rl_put {z np i0 w0 : Nat} {G : Nat → Option va_E} {S S' : CS} {σ : Hp} {t i : Nat} (h : Rl z np i0 w0 G S σ) (ht : t < 20) (he : cE S t i = true) (hA : cA S' = cA S) (hE : cE S' = cE S) (hn : cn S' = cn S) (hz : cz S' = cz S) (hc : ∀ t' i', ¬ (t' = t ∧ i' = i) → ccel np S' t' i' = ccel np S t' i') : Rl z np i0 w0 G S' (upc z σ (cA S t i) (ccel np S' t i)) := by
  obtain ⟨h1, h2, h3, h4, h5, h6⟩ := h
  obtain ⟨g1, g2, g3⟩ := h1 t i ht he
  have hlt : cA S t i - z < σ.length := (List.getElem?_eq_some_iff.mp g2).1
  refine ⟨fun t' i' ht' he' => ?_, fun t1 i1 t2 i2 a1 a2 b1 b2 c => ?_, fun k k1 k2 => ?_, ?_, ?_, ?_⟩
  · rw [hE] at he'
    rw [hA]
    obtain ⟨f1, f2, f3⟩ := h1 t' i' ht' he'
    refine ⟨f1, ?_, f3⟩
    unfold upc
    by_cases hq : t' = t ∧ i' = i
    · obtain ⟨rfl, rfl⟩ := hq
      exact List.getElem?_set_self hlt
    · rw [List.getElem?_set_ne, f2, hc t' i' hq]
      intro q
      exact hq (h2 t' i' t i ht' ht he' he (by omega))
  · rw [hE] at b1 b2
    rw [hA] at c
    exact h2 t1 i1 t2 i2 a1 a2 b1 b2 c
  · unfold upc
    rw [List.getElem?_set_ne (by omega)]
    exact h3 k k1 k2
  · rw [upc_len, hn]
    exact h4
  · rw [szH_upc g2 (esz_ccel S' S t i), hz]
    exact h5
  · rw [upc_len]
    exact h6
theorem Rl_cel {z np i0 w0 b L : Nat} {xs : Nat → Int32} {G : Nat → Option va_E} {S : CS} {σ : Hp} {t i : Nat} (h : Rl z np i0 w0 G S σ) (ht : t < 20) (he : cE S t i = true) : cel z b L xs σ (cA S t i) = some (ccel np S t i) := by
  obtain ⟨g1, g2, -⟩ := h.1 t i ht he
  unfold cel
  rw [if_pos g1]
  exact g2
theorem setI_put {np : Nat} {S : CS} {t k i : Nat} {x : Int32} : ∀ t' i', ¬ (t' = t ∧ i' = i) → ccel np (setI S t k i x) t' i' = ccel np S t' i' := fun t' i' h => ccel_congr (fun _ => up3_ne h) (fun _ => rfl) (fun _ => rfl)
theorem setJ_put {np : Nat} {S : CS} {t k i : Nat} {x : Int64} : ∀ t' i', ¬ (t' = t ∧ i' = i) → ccel np (setJ S t k i x) t' i' = ccel np S t' i' := fun t' i' h => ccel_congr (fun _ => rfl) (fun _ => up3_ne h) (fun _ => rfl)
theorem setP_put {np : Nat} {S : CS} {t k i : Nat} {x : Option Nat} : ∀ t' i', ¬ (t' = t ∧ i' = i) → ccel np (setP S t k i x) t' i' = ccel np S t' i' := fun t' i' h => ccel_congr (fun _ => rfl) (fun _ => rfl) (fun _ => up3_ne h)
/-- one more: kind t, number i, at the heap's end -/
def newS (S : CS) (z t i : Nat) (w : Nat) : CS := (fun t' => if t' = t then (fun k i' => if i' = i then 0 else S.1 t k i') else S.1 t', fun t' => if t' = t then (fun k i' => if i' = i then 0 else S.2.1 t k i') else S.2.1 t', fun t' => if t' = t then (fun k i' => if i' = i then none else S.2.2.1 t k i') else S.2.2.1 t', upN S.2.2.2.1 t i (z + cn S), upN S.2.2.2.2.1 t i true, cn S + 1, cz S + w)
theorem newS_ne {S : CS} {z t i w t' i' : Nat} (h : ¬ (t' = t ∧ i' = i)) : (∀ k, cI (newS S z t i w) t' k i' = cI S t' k i') ∧ (∀ k, cJ (newS S z t i w) t' k i' = cJ S t' k i') ∧ (∀ k, cP (newS S z t i w) t' k i' = cP S t' k i') ∧ cA (newS S z t i w) t' i' = cA S t' i' ∧ cE (newS S z t i w) t' i' = cE S t' i' := by
  unfold newS cI cJ cP cA cE upN
  by_cases h1 : t' = t
  · subst h1
    have h2 : i' ≠ i := fun q => h ⟨rfl, q⟩
    simp [h2]
  · simp [h1]
theorem newS_s {S : CS} {z t i w : Nat} : (∀ k, cI (newS S z t i w) t k i = 0) ∧ (∀ k, cJ (newS S z t i w) t k i = 0) ∧ (∀ k, cP (newS S z t i w) t k i = none) ∧ cA (newS S z t i w) t i = z + cn S ∧ cE (newS S z t i w) t i = true := by
  unfold newS cI cJ cP cA cE upN
  simp
theorem Rl_new {z np i0 w0 : Nat} {G : Nat → Option va_E} {S : CS} {σ : Hp} {t i w : Nat} (h : Rl z np i0 w0 G S σ) (ht : t < 20) (he : cE S t i = false) (hw : esz (ccel np (newS S z t i w) t i) = w) : Rl z np i0 w0 G (newS S z t i w) (σ ++ [ccel np (newS S z t i w) t i]) := by
  obtain ⟨h1, h2, h3, h4, h5, h6⟩ := h
  have hold : ∀ t' i', cE S t' i' = true → ¬ (t' = t ∧ i' = i) := fun t' i' q r => by
    rw [r.1, r.2, he] at q
    cases q
  refine ⟨fun t' i' ht' he' => ?_, fun t1 i1 t2 i2 a1 a2 b1 b2 c => ?_, fun k k1 k2 => ?_, ?_, ?_, ?_⟩
  · by_cases hq : t' = t ∧ i' = i
    · obtain ⟨rfl, rfl⟩ := hq
      rw [newS_s.2.2.2.1]
      refine ⟨by omega, ?_, Or.inr (by omega)⟩
      rw [show z + cn S - z = σ.length by omega, List.getElem?_append_right (Nat.le_refl _), Nat.sub_self]
      rfl
    · obtain ⟨g1, g2, g3, g4, g5⟩ := newS_ne (S := S) (z := z) (w := w) hq
      rw [g5] at he'
      rw [g4, ccel_congr g1 g2 g3]
      obtain ⟨f1, f2, f3⟩ := h1 t' i' ht' he'
      exact ⟨f1, by rw [List.getElem?_append_left (List.getElem?_eq_some_iff.mp f2).1]; exact f2, f3⟩
  · have lt : ∀ t' i', t' < 20 → cE S t' i' = true → cA S t' i' ≠ z + cn S := fun t' i' q r s => by
      obtain ⟨f1, f2, f3⟩ := h1 t' i' q r
      have := (List.getElem?_eq_some_iff.mp f2).1
      omega
    by_cases hq1 : t1 = t ∧ i1 = i <;> by_cases hq2 : t2 = t ∧ i2 = i
    · exact ⟨hq1.1.trans hq2.1.symm, hq1.2.trans hq2.2.symm⟩
    · rw [hq1.1, hq1.2, newS_s.2.2.2.1, (newS_ne hq2).2.2.2.1] at c
      rw [(newS_ne hq2).2.2.2.2] at b2
      exact absurd c.symm (lt t2 i2 a2 b2)
    · rw [hq2.1, hq2.2, newS_s.2.2.2.1, (newS_ne hq1).2.2.2.1] at c
      rw [(newS_ne hq1).2.2.2.2] at b1
      exact absurd c (lt t1 i1 a1 b1)
    · rw [(newS_ne hq1).2.2.2.1, (newS_ne hq2).2.2.2.1] at c
      rw [(newS_ne hq1).2.2.2.2] at b1
      rw [(newS_ne hq2).2.2.2.2] at b2
      exact h2 t1 i1 t2 i2 a1 a2 b1 b2 c
  · rw [List.getElem?_append_left (by omega)]
    exact h3 k k1 k2
  · rw [List.length_append, List.length_singleton, h4]
    rfl
  · rw [szH_app, h5, hw]
    rfl
  · rw [List.length_append]
    omega
end
section
/-! ===== rules for the class's methods, over its objects ===== -/
/-- z, b, L, xs of the engine; np, i0, w0, G of Rl -/
abbrev Ev : Type := Nat × Nat × Nat × (Nat → Int32) × Nat × Nat × Nat × (Nat → Option va_E)
def RX (X : Ev) (S : CS) (σ : Hp) : Prop := Rl X.1 X.2.2.2.2.1 X.2.2.2.2.2.1 X.2.2.2.2.2.2.1 X.2.2.2.2.2.2.2 S σ
abbrev xZ (X : Ev) : Nat := X.1
abbrev xN (X : Ev) : Nat := X.2.2.2.2.1
abbrev CalX (X : Ev) : Nat → Crel := Cal X.1 X.2.1 X.2.2.1 X.2.2.2.1
abbrev wpX (X : Ev) (d : Nat) (t : List (Nat × Instr × Nat)) (oc : Nat) (rt : Option FieldType) (Q : Option Value → Hp → Prop) : Nat → Nat → Lv → List Value → Hp → Prop := wp X.1 X.2.1 X.2.2.1 X.2.2.2.1 (CalX X d) t oc rt Q
def QS (X : Ev) (Qr : Option Value → CS → Prop) : Option Value → Hp → Prop := fun v σ => ∃ S, RX X S σ ∧ Qr v S
def WC (X : Ev) (d : Nat) (t : List (Nat × Instr × Nat)) (oc : Nat) (rt : Option FieldType) (Qr : Option Value → CS → Prop) (pc : Nat) (lv : Lv) (st : List Value) (S : CS) : Prop := ∀ σ, RX X S σ → ∃ n, wpX X d t oc rt (QS X Qr) n pc lv st σ
def CalC (X : Ev) (d j : Nat) (av : List Value) (S : CS) (Qc : Option Value → CS → Prop) : Prop := ∀ σ, RX X S σ → ∃ v σ1 S', CalX X d j av σ v σ1 ∧ RX X S' σ1 ∧ Qc v S'
section CR
variable {X : Ev} {d : Nat} {t : List (Nat × Instr × Nat)} {oc : Nat} {rt : Option FieldType} {Qr : Option Value → CS → Prop} {pc : Nat} {lv : Lv} {st r : List Value} {S : CS} {len : Nat}
theorem wx_of {Q : Option Value → Hp → Prop} {σ : Hp} {q : Instr × Nat} (h : t.lookup pc = some q) {n : Nat} (k : ins X.1 X.2.1 X.2.2.1 X.2.2.2.1 (CalX X d) oc rt Q (wpX X d t oc rt Q n) pc lv st σ q.1) : ∃ n, wpX X d t oc rt Q n pc lv st σ := ⟨n + 1, by simp only [wpX, wp, h]; exact k⟩
theorem C_iconst {v : Int} {y : Int32} (h : t.lookup pc = some (.iconst v, len)) (hv : Int32.ofInt v = y) (k : WC X d t oc rt Qr (pc + 1) lv (.int y :: st) S) : WC X d t oc rt Qr pc lv st S := by
  subst hv
  intro σ hσ
  obtain ⟨n, k⟩ := k σ hσ
  exact wx_of h k
theorem C_bipush {v : Int} {y : Int32} (h : t.lookup pc = some (.bipush v, len)) (hv : (Int8.ofInt v).toInt32 = y) (k : WC X d t oc rt Qr (pc + 2) lv (.int y :: st) S) : WC X d t oc rt Qr pc lv st S := by
  subst hv
  intro σ hσ
  obtain ⟨n, k⟩ := k σ hσ
  exact wx_of h k
theorem C_sipush {v : Int} {y : Int32} (h : t.lookup pc = some (.sipush v, len)) (hv : (Int16.ofInt v).toInt32 = y) (k : WC X d t oc rt Qr (pc + 3) lv (.int y :: st) S) : WC X d t oc rt Qr pc lv st S := by
  subst hv
  intro σ hσ
  obtain ⟨n, k⟩ := k σ hσ
  exact wx_of h k
theorem C_lconst {v : Fin 2} {y : Int64} (h : t.lookup pc = some (.lconst v, len)) (hv : Int64.ofNat v.val = y) (k : WC X d t oc rt Qr (pc + 1) lv (.long y :: st) S) : WC X d t oc rt Qr pc lv st S := by
  subst hv
  intro σ hσ
  obtain ⟨n, k⟩ := k σ hσ
  exact wx_of h k
theorem C_null  (h : t.lookup pc = some (.aconst_null, len)) (k : WC X d t oc rt Qr (pc + 1) lv (.null :: st) S) : WC X d t oc rt Qr pc lv st S := by
  intro σ hσ
  obtain ⟨n, k⟩ := k σ hσ
  exact wx_of h k
theorem C_ldc {i ix : Nat} {v : Int32} (h : t.lookup pc = some (.ldc i, len)) (hk : kres oc i = some (v, ix)) (k : WC X d t oc rt Qr (pc + 2) lv (.int v :: st) S) : WC X d t oc rt Qr pc lv st S := by
  intro σ hσ
  obtain ⟨n, k⟩ := k σ hσ
  refine wx_of h (n := n) ?_
  simp only [ins, hk]
  exact k
theorem C_ldc2_w {i ix : Nat} {v : Int64} (h : t.lookup pc = some (.ldc2_w i, len)) (hk : jres oc i = some (v, ix)) (k : WC X d t oc rt Qr (pc + 3) lv (.long v :: st) S) : WC X d t oc rt Qr pc lv st S := by
  intro σ hσ
  obtain ⟨n, k⟩ := k σ hσ
  refine wx_of h (n := n) ?_
  simp only [ins, hk]
  exact k
theorem C_iload_n {i : Fin 4} {x : Int32} (h : t.lookup pc = some (.iload_n i, len)) (hl : lv.lookup i.val = some (.int x)) (k : WC X d t oc rt Qr (pc + 1) lv (.int x :: st) S) : WC X d t oc rt Qr pc lv st S := by
  intro σ hσ
  obtain ⟨n, k⟩ := k σ hσ
  refine wx_of h (n := n) ?_
  simp only [ins, hl]
  exact k
theorem C_iload {i : Nat} {x : Int32} (h : t.lookup pc = some (.iload i, len)) (hl : lv.lookup i = some (.int x)) (k : WC X d t oc rt Qr (pc + 2) lv (.int x :: st) S) : WC X d t oc rt Qr pc lv st S := by
  intro σ hσ
  obtain ⟨n, k⟩ := k σ hσ
  refine wx_of h (n := n) ?_
  simp only [ins, hl]
  exact k
theorem C_istore_n {i : Fin 4} {x : Int32} {lv' : Lv} (h : t.lookup pc = some (.istore_n i, len)) (hl : lvs i.val (.int x) lv = lv') (k : WC X d t oc rt Qr (pc + 1) lv' r S) : WC X d t oc rt Qr pc lv (.int x :: r) S := by
  subst hl
  intro σ hσ
  obtain ⟨n, k⟩ := k σ hσ
  exact wx_of h k
theorem C_istore {i : Nat} {x : Int32} {lv' : Lv} (h : t.lookup pc = some (.istore i, len)) (hl : lvs i (.int x) lv = lv') (k : WC X d t oc rt Qr (pc + 2) lv' r S) : WC X d t oc rt Qr pc lv (.int x :: r) S := by
  subst hl
  intro σ hσ
  obtain ⟨n, k⟩ := k σ hσ
  exact wx_of h k
theorem C_lload_n {i : Fin 4} {x : Int64} (h : t.lookup pc = some (.lload_n i, len)) (hl : lv.lookup i.val = some (.long x)) (k : WC X d t oc rt Qr (pc + 1) lv (.long x :: st) S) : WC X d t oc rt Qr pc lv st S := by
  intro σ hσ
  obtain ⟨n, k⟩ := k σ hσ
  refine wx_of h (n := n) ?_
  simp only [ins, hl]
  exact k
theorem C_lload {i : Nat} {x : Int64} (h : t.lookup pc = some (.lload i, len)) (hl : lv.lookup i = some (.long x)) (k : WC X d t oc rt Qr (pc + 2) lv (.long x :: st) S) : WC X d t oc rt Qr pc lv st S := by
  intro σ hσ
  obtain ⟨n, k⟩ := k σ hσ
  refine wx_of h (n := n) ?_
  simp only [ins, hl]
  exact k
theorem C_lstore_n {i : Fin 4} {x : Int64} {lv' : Lv} (h : t.lookup pc = some (.lstore_n i, len)) (hl : lvl i.val (.long x) lv = lv') (k : WC X d t oc rt Qr (pc + 1) lv' r S) : WC X d t oc rt Qr pc lv (.long x :: r) S := by
  subst hl
  intro σ hσ
  obtain ⟨n, k⟩ := k σ hσ
  exact wx_of h k
theorem C_lstore {i : Nat} {x : Int64} {lv' : Lv} (h : t.lookup pc = some (.lstore i, len)) (hl : lvl i (.long x) lv = lv') (k : WC X d t oc rt Qr (pc + 2) lv' r S) : WC X d t oc rt Qr pc lv (.long x :: r) S := by
  subst hl
  intro σ hσ
  obtain ⟨n, k⟩ := k σ hσ
  exact wx_of h k
theorem C_aload_n {i : Fin 4} {x : Nat} (h : t.lookup pc = some (.aload_n i, len)) (hl : lv.lookup i.val = some (.ref x)) (k : WC X d t oc rt Qr (pc + 1) lv (.ref x :: st) S) : WC X d t oc rt Qr pc lv st S := by
  intro σ hσ
  obtain ⟨n, k⟩ := k σ hσ
  refine wx_of h (n := n) ?_
  simp only [ins, hl]
  exact k
theorem C_aload {i : Nat} {x : Nat} (h : t.lookup pc = some (.aload i, len)) (hl : lv.lookup i = some (.ref x)) (k : WC X d t oc rt Qr (pc + 2) lv (.ref x :: st) S) : WC X d t oc rt Qr pc lv st S := by
  intro σ hσ
  obtain ⟨n, k⟩ := k σ hσ
  refine wx_of h (n := n) ?_
  simp only [ins, hl]
  exact k
theorem C_astore_n {i : Fin 4} {x : Nat} {lv' : Lv} (h : t.lookup pc = some (.astore_n i, len)) (hl : lvs i.val (.ref x) lv = lv') (k : WC X d t oc rt Qr (pc + 1) lv' r S) : WC X d t oc rt Qr pc lv (.ref x :: r) S := by
  subst hl
  intro σ hσ
  obtain ⟨n, k⟩ := k σ hσ
  exact wx_of h k
theorem C_astore {i : Nat} {x : Nat} {lv' : Lv} (h : t.lookup pc = some (.astore i, len)) (hl : lvs i (.ref x) lv = lv') (k : WC X d t oc rt Qr (pc + 2) lv' r S) : WC X d t oc rt Qr pc lv (.ref x :: r) S := by
  subst hl
  intro σ hσ
  obtain ⟨n, k⟩ := k σ hσ
  exact wx_of h k
theorem C_aload_nN {i : Fin 4} (h : t.lookup pc = some (.aload_n i, len)) (hl : lv.lookup i.val = some .null) (k : WC X d t oc rt Qr (pc + 1) lv (.null :: st) S) : WC X d t oc rt Qr pc lv st S := by
  intro σ hσ
  obtain ⟨n, k⟩ := k σ hσ
  refine wx_of h (n := n) ?_
  simp only [ins, hl]
  exact k
theorem C_aloadN {i : Nat} (h : t.lookup pc = some (.aload i, len)) (hl : lv.lookup i = some .null) (k : WC X d t oc rt Qr (pc + 2) lv (.null :: st) S) : WC X d t oc rt Qr pc lv st S := by
  intro σ hσ
  obtain ⟨n, k⟩ := k σ hσ
  refine wx_of h (n := n) ?_
  simp only [ins, hl]
  exact k
theorem C_astore_nN {i : Fin 4} {lv' : Lv} (h : t.lookup pc = some (.astore_n i, len)) (hl : lvs i.val .null lv = lv') (k : WC X d t oc rt Qr (pc + 1) lv' r S) : WC X d t oc rt Qr pc lv (.null :: r) S := by
  subst hl
  intro σ hσ
  obtain ⟨n, k⟩ := k σ hσ
  exact wx_of h k
theorem C_astoreN {i : Nat} {lv' : Lv} (h : t.lookup pc = some (.astore i, len)) (hl : lvs i .null lv = lv') (k : WC X d t oc rt Qr (pc + 2) lv' r S) : WC X d t oc rt Qr pc lv (.null :: r) S := by
  subst hl
  intro σ hσ
  obtain ⟨n, k⟩ := k σ hσ
  exact wx_of h k
theorem C_iinc {i : Nat} {v : Int} {x y : Int32} {lv' : Lv} (h : t.lookup pc = some (.iinc i v, len)) (hx : lv.lookup i = some (.int x)) (hy : x + Int32.ofInt v = y) (hl : lvs i (.int y) lv = lv') (k : WC X d t oc rt Qr (pc + 3) lv' st S) : WC X d t oc rt Qr pc lv st S := by
  subst hy; subst hl
  intro σ hσ
  obtain ⟨n, k⟩ := k σ hσ
  refine wx_of h (n := n) ?_
  simp only [ins, hx]
  exact k
theorem C_iadd {x y : Int32} (h : t.lookup pc = some (.iadd, len)) (k : WC X d t oc rt Qr (pc + 1) lv (.int (x + y) :: r) S) : WC X d t oc rt Qr pc lv (.int y :: .int x :: r) S := by
  intro σ hσ
  obtain ⟨n, k⟩ := k σ hσ
  exact wx_of h k
theorem C_isub {x y : Int32} (h : t.lookup pc = some (.isub, len)) (k : WC X d t oc rt Qr (pc + 1) lv (.int (x - y) :: r) S) : WC X d t oc rt Qr pc lv (.int y :: .int x :: r) S := by
  intro σ hσ
  obtain ⟨n, k⟩ := k σ hσ
  exact wx_of h k
theorem C_imul {x y : Int32} (h : t.lookup pc = some (.imul, len)) (k : WC X d t oc rt Qr (pc + 1) lv (.int (x * y) :: r) S) : WC X d t oc rt Qr pc lv (.int y :: .int x :: r) S := by
  intro σ hσ
  obtain ⟨n, k⟩ := k σ hσ
  exact wx_of h k
theorem C_iand {x y : Int32} (h : t.lookup pc = some (.iand, len)) (k : WC X d t oc rt Qr (pc + 1) lv (.int (x &&& y) :: r) S) : WC X d t oc rt Qr pc lv (.int y :: .int x :: r) S := by
  intro σ hσ
  obtain ⟨n, k⟩ := k σ hσ
  exact wx_of h k
theorem C_ishr {x y : Int32} (h : t.lookup pc = some (.ishr, len)) (k : WC X d t oc rt Qr (pc + 1) lv (.int (x >>> (y &&& 31)) :: r) S) : WC X d t oc rt Qr pc lv (.int y :: .int x :: r) S := by
  intro σ hσ
  obtain ⟨n, k⟩ := k σ hσ
  exact wx_of h k
theorem C_idiv {x y : Int32} (h : t.lookup pc = some (.idiv, len)) (hy : ¬ y = 0) (k : WC X d t oc rt Qr (pc + 1) lv (.int (x / y) :: r) S) : WC X d t oc rt Qr pc lv (.int y :: .int x :: r) S := by
  intro σ hσ
  obtain ⟨n, k⟩ := k σ hσ
  exact wx_of h (n := n) ⟨hy, k⟩
theorem C_ineg {x : Int32} (h : t.lookup pc = some (.ineg, len)) (k : WC X d t oc rt Qr (pc + 1) lv (.int (-x) :: r) S) : WC X d t oc rt Qr pc lv (.int x :: r) S := by
  intro σ hσ
  obtain ⟨n, k⟩ := k σ hσ
  exact wx_of h k
theorem C_ladd {x y : Int64} (h : t.lookup pc = some (.ladd, len)) (k : WC X d t oc rt Qr (pc + 1) lv (.long (x + y) :: r) S) : WC X d t oc rt Qr pc lv (.long y :: .long x :: r) S := by
  intro σ hσ
  obtain ⟨n, k⟩ := k σ hσ
  exact wx_of h k
theorem C_lsub {x y : Int64} (h : t.lookup pc = some (.lsub, len)) (k : WC X d t oc rt Qr (pc + 1) lv (.long (x - y) :: r) S) : WC X d t oc rt Qr pc lv (.long y :: .long x :: r) S := by
  intro σ hσ
  obtain ⟨n, k⟩ := k σ hσ
  exact wx_of h k
theorem C_lmul {x y : Int64} (h : t.lookup pc = some (.lmul, len)) (k : WC X d t oc rt Qr (pc + 1) lv (.long (x * y) :: r) S) : WC X d t oc rt Qr pc lv (.long y :: .long x :: r) S := by
  intro σ hσ
  obtain ⟨n, k⟩ := k σ hσ
  exact wx_of h k
theorem C_land {x y : Int64} (h : t.lookup pc = some (.land, len)) (k : WC X d t oc rt Qr (pc + 1) lv (.long (x &&& y) :: r) S) : WC X d t oc rt Qr pc lv (.long y :: .long x :: r) S := by
  intro σ hσ
  obtain ⟨n, k⟩ := k σ hσ
  exact wx_of h k
theorem C_lor {x y : Int64} (h : t.lookup pc = some (.lor, len)) (k : WC X d t oc rt Qr (pc + 1) lv (.long (x ||| y) :: r) S) : WC X d t oc rt Qr pc lv (.long y :: .long x :: r) S := by
  intro σ hσ
  obtain ⟨n, k⟩ := k σ hσ
  exact wx_of h k
theorem C_ldiv {x y : Int64} (h : t.lookup pc = some (.ldiv, len)) (hy : ¬ y = 0) (k : WC X d t oc rt Qr (pc + 1) lv (.long (x / y) :: r) S) : WC X d t oc rt Qr pc lv (.long y :: .long x :: r) S := by
  intro σ hσ
  obtain ⟨n, k⟩ := k σ hσ
  exact wx_of h (n := n) ⟨hy, k⟩
theorem C_lrem {x y : Int64} (h : t.lookup pc = some (.lrem, len)) (hy : ¬ y = 0) (k : WC X d t oc rt Qr (pc + 1) lv (.long (x - x / y * y) :: r) S) : WC X d t oc rt Qr pc lv (.long y :: .long x :: r) S := by
  intro σ hσ
  obtain ⟨n, k⟩ := k σ hσ
  exact wx_of h (n := n) ⟨hy, k⟩
theorem C_lushr {x v : Int64} {y : Int32} (h : t.lookup pc = some (.lushr, len)) (hv : (x.toUInt64 >>> (y.toInt64.toUInt64 &&& Int64.toUInt64 63)).toInt64 = v) (k : WC X d t oc rt Qr (pc + 1) lv (.long v :: r) S) : WC X d t oc rt Qr pc lv (.int y :: .long x :: r) S := by
  subst hv
  intro σ hσ
  obtain ⟨n, k⟩ := k σ hσ
  exact wx_of h k
theorem C_lshl {x v : Int64} {y : Int32} (h : t.lookup pc = some (.lshl, len)) (hv : x <<< (y.toInt64 &&& 63) = v) (k : WC X d t oc rt Qr (pc + 1) lv (.long v :: r) S) : WC X d t oc rt Qr pc lv (.int y :: .long x :: r) S := by
  subst hv
  intro σ hσ
  obtain ⟨n, k⟩ := k σ hσ
  exact wx_of h k
theorem C_lcmp {x y : Int64} (h : t.lookup pc = some (.lcmp, len)) (k : WC X d t oc rt Qr (pc + 1) lv (.int (lg_cmp x y) :: r) S) : WC X d t oc rt Qr pc lv (.long y :: .long x :: r) S := by
  intro σ hσ
  obtain ⟨n, k⟩ := k σ hσ
  exact wx_of h k
theorem C_i2l {x : Int32} (h : t.lookup pc = some (.i2l, len)) (k : WC X d t oc rt Qr (pc + 1) lv (.long x.toInt64 :: r) S) : WC X d t oc rt Qr pc lv (.int x :: r) S := by
  intro σ hσ
  obtain ⟨n, k⟩ := k σ hσ
  exact wx_of h k
theorem C_l2i {x : Int64} (h : t.lookup pc = some (.l2i, len)) (k : WC X d t oc rt Qr (pc + 1) lv (.int x.toInt32 :: r) S) : WC X d t oc rt Qr pc lv (.long x :: r) S := by
  intro σ hσ
  obtain ⟨n, k⟩ := k σ hσ
  exact wx_of h k
theorem C_i2b {x : Int32} (h : t.lookup pc = some (.i2b, len)) (k : WC X d t oc rt Qr (pc + 1) lv (.int x.toInt8.toInt32 :: r) S) : WC X d t oc rt Qr pc lv (.int x :: r) S := by
  intro σ hσ
  obtain ⟨n, k⟩ := k σ hσ
  exact wx_of h k
theorem C_dup {v : Value} (h : t.lookup pc = some (.dup, len)) (hv : v.category = 1) (k : WC X d t oc rt Qr (pc + 1) lv (v :: v :: r) S) : WC X d t oc rt Qr pc lv (v :: r) S := by
  intro σ hσ
  obtain ⟨n, k⟩ := k σ hσ
  exact wx_of h (n := n) ⟨hv, k⟩
theorem C_dup2 {v w : Value} (h : t.lookup pc = some (.dup2, len)) (hv : v.category = 1) (hw : w.category = 1) (k : WC X d t oc rt Qr (pc + 1) lv (v :: w :: v :: w :: r) S) : WC X d t oc rt Qr pc lv (v :: w :: r) S := by
  intro σ hσ
  obtain ⟨n, k⟩ := k σ hσ
  exact wx_of h (n := n) ⟨hv, hw, k⟩
theorem C_pop {v : Value} (h : t.lookup pc = some (.pop, len)) (hv : v.category = 1) (k : WC X d t oc rt Qr (pc + 1) lv r S) : WC X d t oc rt Qr pc lv (v :: r) S := by
  intro σ hσ
  obtain ⟨n, k⟩ := k σ hσ
  exact wx_of h (n := n) ⟨hv, k⟩
theorem C_goto {f : Int} {pc' : Nat} (h : t.lookup pc = some (.goto f, len)) (hp : jt pc f = pc') (k : WC X d t oc rt Qr pc' lv st S) : WC X d t oc rt Qr pc lv st S := by
  subst hp
  intro σ hσ
  obtain ⟨n, k⟩ := k σ hσ
  exact wx_of h k
theorem C_if {c : ClassFile.Cond} {f : Int} {x : Int32} {pc' : Nat} (h : t.lookup pc = some (.ifCond c f, len)) (hp : jt pc f = pc') (k1 : icc c x 0 → WC X d t oc rt Qr pc' lv r S) (k2 : ¬ icc c x 0 → WC X d t oc rt Qr (pc + 3) lv r S) : WC X d t oc rt Qr pc lv (.int x :: r) S := by
  subst hp
  intro σ hσ
  by_cases q : icc c x 0
  · obtain ⟨n, k⟩ := k1 q σ hσ
    exact wx_of h (n := n) ⟨fun _ => k, fun q' => absurd q q'⟩
  · obtain ⟨n, k⟩ := k2 q σ hσ
    exact wx_of h (n := n) ⟨fun q' => absurd q' q, fun _ => k⟩
theorem C_icmp {c : ClassFile.Cond} {f : Int} {x y : Int32} {pc' : Nat} (h : t.lookup pc = some (.if_icmp c f, len)) (hp : jt pc f = pc') (k1 : icc c x y → WC X d t oc rt Qr pc' lv r S) (k2 : ¬ icc c x y → WC X d t oc rt Qr (pc + 3) lv r S) : WC X d t oc rt Qr pc lv (.int y :: .int x :: r) S := by
  subst hp
  intro σ hσ
  by_cases q : icc c x y
  · obtain ⟨n, k⟩ := k1 q σ hσ
    exact wx_of h (n := n) ⟨fun _ => k, fun q' => absurd q q'⟩
  · obtain ⟨n, k⟩ := k2 q σ hσ
    exact wx_of h (n := n) ⟨fun q' => absurd q' q, fun _ => k⟩
theorem C_acmpE {f : Int} {rx ry : Option Nat} {v w : Value} {pc' : Nat} (h : t.lookup pc = some (.if_acmp .eq f, len)) (hp : jt pc f = pc') (hv : v = va_rf ry) (hw : w = va_rf rx) (k1 : rx = ry → WC X d t oc rt Qr pc' lv r S) (k2 : ¬ rx = ry → WC X d t oc rt Qr (pc + 3) lv r S) : WC X d t oc rt Qr pc lv (v :: w :: r) S := by
  subst hp
  intro σ hσ
  by_cases q : rx = ry
  · obtain ⟨n, k⟩ := k1 q σ hσ
    exact wx_of h (n := n) ⟨rx, ry, hv, hw, fun _ => k, fun q' => absurd q q'⟩
  · obtain ⟨n, k⟩ := k2 q σ hσ
    exact wx_of h (n := n) ⟨rx, ry, hv, hw, fun q' => absurd q' q, fun _ => k⟩
theorem C_acmpN {f : Int} {rx ry : Option Nat} {v w : Value} {pc' : Nat} (h : t.lookup pc = some (.if_acmp .ne f, len)) (hp : jt pc f = pc') (hv : v = va_rf ry) (hw : w = va_rf rx) (k1 : ¬ rx = ry → WC X d t oc rt Qr pc' lv r S) (k2 : rx = ry → WC X d t oc rt Qr (pc + 3) lv r S) : WC X d t oc rt Qr pc lv (v :: w :: r) S := by
  subst hp
  intro σ hσ
  by_cases q : rx = ry
  · obtain ⟨n, k⟩ := k2 q σ hσ
    exact wx_of h (n := n) ⟨rx, ry, hv, hw, fun q' => absurd q q', fun _ => k⟩
  · obtain ⟨n, k⟩ := k1 q σ hσ
    exact wx_of h (n := n) ⟨rx, ry, hv, hw, fun _ => k, fun q' => absurd q' q⟩
theorem C_ifnullT {f : Int} {pc' : Nat} (h : t.lookup pc = some (.ifnull f, len)) (hp : jt pc f = pc') (k : WC X d t oc rt Qr pc' lv r S) : WC X d t oc rt Qr pc lv (.null :: r) S := by
  subst hp
  intro σ hσ
  obtain ⟨n, k⟩ := k σ hσ
  exact wx_of h k
theorem C_ifnullF {f : Int} {a : Nat} (h : t.lookup pc = some (.ifnull f, len)) (k : WC X d t oc rt Qr (pc + 3) lv r S) : WC X d t oc rt Qr pc lv (.ref a :: r) S := by
  intro σ hσ
  obtain ⟨n, k⟩ := k σ hσ
  exact wx_of h k
theorem C_ifnonnullF {f : Int} (h : t.lookup pc = some (.ifnonnull f, len)) (k : WC X d t oc rt Qr (pc + 3) lv r S) : WC X d t oc rt Qr pc lv (.null :: r) S := by
  intro σ hσ
  obtain ⟨n, k⟩ := k σ hσ
  exact wx_of h k
theorem C_ifnonnullT {f : Int} {a pc' : Nat} (h : t.lookup pc = some (.ifnonnull f, len)) (hp : jt pc f = pc') (k : WC X d t oc rt Qr pc' lv r S) : WC X d t oc rt Qr pc lv (.ref a :: r) S := by
  subst hp
  intro σ hσ
  obtain ⟨n, k⟩ := k σ hσ
  exact wx_of h k
theorem C_table {df lo hi : Int} {offs : Array Int} {x : Int32} {pc' : Nat} (h : t.lookup pc = some (.tableswitch df lo hi offs, len)) (hp : jt pc (swt df lo hi offs x.toInt) = pc') (k : WC X d t oc rt Qr pc' lv r S) : WC X d t oc rt Qr pc lv (.int x :: r) S := by
  subst hp
  intro σ hσ
  obtain ⟨n, k⟩ := k σ hσ
  exact wx_of h k
theorem C_lookup {df : Int} {ps : Array (Int × Int)} {x : Int32} {pc' : Nat} (h : t.lookup pc = some (.lookupswitch df ps, len)) (hp : jt pc (Op.lookupswitch.offset ps.toList df x.toInt) = pc') (k : WC X d t oc rt Qr pc' lv r S) : WC X d t oc rt Qr pc lv (.int x :: r) S := by
  subst hp
  intro σ hσ
  obtain ⟨n, k⟩ := k σ hσ
  exact wx_of h k
theorem ccel_ob {np t0 i ci : Nat} (ht : t0 < 9) (hc : tcl.getD t0 99 = ci) : ccel np S t0 i = oB ci (ofs S t0 i) := by
  subst hc
  unfold ccel
  rw [if_pos ht]
theorem ccel_J {np t0 i : Nat} (ht : ¬ t0 < 9) (hc : akd.getD t0 9 = 1) : ccel np S t0 i = aJ (lnt np t0) (fun j => cJ S t0 j i) := by
  unfold ccel
  rw [if_neg ht, hc]
  rfl
theorem ccel_I {np t0 i : Nat} (ht : ¬ t0 < 9) (hc : akd.getD t0 9 = 0) : ccel np S t0 i = aI (lnt np t0) (fun j => cI S t0 j i) := by
  unfold ccel
  rw [if_neg ht, hc]
  rfl
theorem ccel_B {np t0 i : Nat} (ht : ¬ t0 < 9) (hc : akd.getD t0 9 = 2) : ccel np S t0 i = aB (lnt np t0) (fun j => cI S t0 j i) := by
  unfold ccel
  rw [if_neg ht, hc]
  rfl
theorem ccel_R {np t0 i q : Nat} (ht : ¬ t0 < 9) (hc : akd.getD t0 9 = q) (hq : q = 4 ∨ q = 5) : ccel np S t0 i = aR q (lnt np t0) (fun j => cP S t0 j i) := by
  unfold ccel
  rw [if_neg ht, hc]
  rcases hq with rfl | rfl <;> rfl
theorem akd_lt {t0 : Nat} (h : akd.getD t0 9 ≠ 9) : ¬ t0 < 9 ∧ t0 < 20 := by
  have h1 : (List.range 20).all (fun k => decide (akd.getD k 9 ≠ 9 → ¬ k < 9)) = true := by decide +kernel
  by_cases hk : t0 < 20
  · exact ⟨of_decide_eq_true (List.all_eq_true.mp h1 t0 (List.mem_range.mpr hk)) h, hk⟩
  · exact absurd (by rw [List.getD_eq_getElem?_getD, List.getElem?_eq_none (by show 20 ≤ t0; omega)]; rfl) h
/-- a field that is an int or a boolean -/
theorem C_getI {ix ci f w t0 i a : Nat} {ty : FieldType} (h : t.lookup pc = some (.getfield ix, len)) (hf : fres oc ix = some (ci, f, w)) (ht : t0 < 9) (hc : tcl.getD t0 99 = ci) (hty : (fTy.getD ci [])[f]? = some ty) (hI : ty = .int ∨ ty = .boolean) (ha : a = cA S t0 i) (he : cE S t0 i = true) (k : WC X d t oc rt Qr (pc + 3) lv (.int (cI S t0 f i) :: r) S) : WC X d t oc rt Qr pc lv (.ref a :: r) S := by
  subst ha
  intro σ hσ
  obtain ⟨n, k⟩ := k σ hσ
  refine wx_of h (n := n) ?_
  simp only [ins, hf]
  refine ⟨ofs S t0 i, _, (Rl_cel hσ (by omega) he).trans (by rw [ccel_ob ht hc]), ofs_get (by rw [hc]; exact hty), ?_⟩
  rcases hI with rfl | rfl <;> exact k
/-- a field that is an object or an array -/
theorem C_getP {ix ci f w t0 i a : Nat} {ty : FieldType} {v : Value} (h : t.lookup pc = some (.getfield ix, len)) (hf : fres oc ix = some (ci, f, w)) (ht : t0 < 9) (hc : tcl.getD t0 99 = ci) (hty : (fTy.getD ci [])[f]? = some ty) (hI : (∃ q, ty = .object q) ∨ ∃ q, ty = .array q) (ha : a = cA S t0 i) (he : cE S t0 i = true) (hv : va_rf (cP S t0 f i) = v) (k : WC X d t oc rt Qr (pc + 3) lv (v :: r) S) : WC X d t oc rt Qr pc lv (.ref a :: r) S := by
  subst ha; subst hv
  intro σ hσ
  obtain ⟨n, k⟩ := k σ hσ
  refine wx_of h (n := n) ?_
  simp only [ins, hf]
  refine ⟨ofs S t0 i, _, (Rl_cel hσ (by omega) he).trans (by rw [ccel_ob ht hc]), ofs_get (by rw [hc]; exact hty), ?_⟩
  rcases hI with ⟨q, rfl⟩ | ⟨q, rfl⟩ <;> exact k
theorem C_getR {ix ci f w t0 i a p : Nat} {ty : FieldType} (h : t.lookup pc = some (.getfield ix, len)) (hf : fres oc ix = some (ci, f, w)) (ht : t0 < 9) (hc : tcl.getD t0 99 = ci) (hty : (fTy.getD ci [])[f]? = some ty) (hI : (∃ q, ty = .object q) ∨ ∃ q, ty = .array q) (ha : a = cA S t0 i) (he : cE S t0 i = true) (hv : cP S t0 f i = some p) (k : WC X d t oc rt Qr (pc + 3) lv (.ref p :: r) S) : WC X d t oc rt Qr pc lv (.ref a :: r) S := C_getP h hf ht hc hty hI ha he (by rw [hv]; rfl) k
theorem C_getN {ix ci f w t0 i a : Nat} {ty : FieldType} (h : t.lookup pc = some (.getfield ix, len)) (hf : fres oc ix = some (ci, f, w)) (ht : t0 < 9) (hc : tcl.getD t0 99 = ci) (hty : (fTy.getD ci [])[f]? = some ty) (hI : (∃ q, ty = .object q) ∨ ∃ q, ty = .array q) (ha : a = cA S t0 i) (he : cE S t0 i = true) (hv : cP S t0 f i = none) (k : WC X d t oc rt Qr (pc + 3) lv (.null :: r) S) : WC X d t oc rt Qr pc lv (.ref a :: r) S := C_getP h hf ht hc hty hI ha he (by rw [hv]; rfl) k
theorem C_putI {ix ci f w t0 i a : Nat} {ty : FieldType} {x : Int32} (h : t.lookup pc = some (.putfield ix, len)) (hf : fres oc ix = some (ci, f, w)) (ht : t0 < 9) (hc : tcl.getD t0 99 = ci) (hty : (fTy.getD ci [])[f]? = some ty) (hI : ty = .int ∨ (ty = .boolean ∧ (x = 0 ∨ x = 1))) (ha : a = cA S t0 i) (he : cE S t0 i = true) (k : WC X d t oc rt Qr (pc + 3) lv r (setI S t0 f i x)) : WC X d t oc rt Qr pc lv (.int x :: .ref a :: r) S := by
  subst ha
  intro σ hσ
  have hs : oB ci ((ofs S t0 i).set f (.int x)) = ccel X.2.2.2.2.1 (setI S t0 f i x) t0 i := by
    rw [ccel_ob ht hc, ofs_set (S := S) (S' := setI S t0 f i x) (by rw [hc]; exact hty) (by rcases hI with rfl | ⟨rfl, -⟩ <;> (show Value.int (up3 S.1 t0 f i x t0 f i) = _; rw [up3_s])) (fun k' hk => up3_k hk) (fun _ _ => rfl)]
  have hR := Rl_put (S' := setI S t0 f i x) hσ (by omega) he rfl rfl rfl rfl setI_put
  obtain ⟨n, k⟩ := k _ hR
  refine wx_of h (n := n) ?_
  simp only [ins, hf]
  refine ⟨ofs S t0 i, (Rl_cel hσ (by omega) he).trans (by rw [ccel_ob ht hc]), by rw [ofs_len, hc]; exact (List.getElem?_eq_some_iff.mp hty).1, ?_, ?_⟩
  · rw [List.getD_eq_getElem?_getD, hty]
    rcases hI with rfl | ⟨rfl, hx⟩
    · trivial
    · exact hx
  · rw [hs]
    exact k
theorem C_putP {ix ci f w t0 i a : Nat} {ty : FieldType} {v : Value} {p : Option Nat} (h : t.lookup pc = some (.putfield ix, len)) (hf : fres oc ix = some (ci, f, w)) (ht : t0 < 9) (hc : tcl.getD t0 99 = ci) (hty : (fTy.getD ci [])[f]? = some ty) (hI : (∃ q, ty = .object q) ∨ ∃ q, ty = .array q) (ha : a = cA S t0 i) (he : cE S t0 i = true) (hv : v = va_rf p) (k : WC X d t oc rt Qr (pc + 3) lv r (setP S t0 f i p)) : WC X d t oc rt Qr pc lv (v :: .ref a :: r) S := by
  subst ha; subst hv
  intro σ hσ
  have hs : oB ci ((ofs S t0 i).set f (va_rf p)) = ccel X.2.2.2.2.1 (setP S t0 f i p) t0 i := by
    rw [ccel_ob ht hc, ofs_set (S := S) (S' := setP S t0 f i p) (by rw [hc]; exact hty) (by rcases hI with ⟨q, rfl⟩ | ⟨q, rfl⟩ <;> (show va_rf (up3 S.2.2.1 t0 f i p t0 f i) = _; rw [up3_s])) (fun _ _ => rfl) (fun k' hk => up3_k hk)]
  have hR := Rl_put (S' := setP S t0 f i p) hσ (by omega) he rfl rfl rfl rfl setP_put
  obtain ⟨n, k⟩ := k _ hR
  refine wx_of h (n := n) ?_
  simp only [ins, hf]
  refine ⟨ofs S t0 i, (Rl_cel hσ (by omega) he).trans (by rw [ccel_ob ht hc]), by rw [ofs_len, hc]; exact (List.getElem?_eq_some_iff.mp hty).1, ?_, ?_⟩
  · rw [List.getD_eq_getElem?_getD, hty]
    cases p <;> rcases hI with ⟨q, rfl⟩ | ⟨q, rfl⟩ <;> trivial
  · rw [hs]
    exact k
theorem lnt_lt31 {np : Nat} (hnp : np < 2 ^ 31) (t0 : Nat) : lnt np t0 < 2 ^ 31 := by
    unfold lnt
    split
    · exact hnp
    · have h1 : ∀ k, ([0, 0, 0, 0, 0, 0, 0, 0, 0, 2000, 200, 1000, 16, 4, 0, 1000, 40, 17, 40, 40] : List Nat).getD k 0 ≤ 2000 := by
        intro k
        by_cases hk : k < 20
        · have h1 : (List.range 20).all (fun k => decide (([0, 0, 0, 0, 0, 0, 0, 0, 0, 2000, 200, 1000, 16, 4, 0, 1000, 40, 17, 40, 40] : List Nat).getD k 0 ≤ 2000)) = true := by decide +kernel
          exact of_decide_eq_true (List.all_eq_true.mp h1 k (List.mem_range.mpr hk))
        · rw [List.getD_eq_getElem?_getD, List.getElem?_eq_none (by show 20 ≤ k; omega)]
          decide
      have := h1 t0
      omega
theorem lnt_lt {np t0 e : Nat} (hnp : np < 2 ^ 31) (h : e < lnt np t0) : e < 2 ^ 31 ∧ lnt np t0 < 2 ^ 31 := ⟨Nat.lt_trans h (lnt_lt31 hnp t0), lnt_lt31 hnp t0⟩
theorem C_lald {t0 i a e : Nat} {x : Int32} (hnp : xN X < 2 ^ 31) (h : t.lookup pc = some (.laload, len)) (hk : akd.getD t0 9 = 1) (ha : a = cA S t0 i) (he : cE S t0 i = true) (hx : x = nI e) (hl : e < lnt (xN X) t0) (k : WC X d t oc rt Qr (pc + 1) lv (.long (cJ S t0 e i) :: r) S) : WC X d t oc rt Qr pc lv (.int x :: .ref a :: r) S := by
  subst ha; subst hx
  intro σ hσ
  obtain ⟨n, k⟩ := k σ hσ
  obtain ⟨g1, g2⟩ := lnt_lt hnp hl
  obtain ⟨q1, q2⟩ := akd_lt (t0 := t0) (by rw [hk]; decide)
  have hce := (Rl_cel (b := X.2.1) (L := X.2.2.1) (xs := X.2.2.2.1) hσ q2 he).trans (congrArg some (ccel_J q1 hk))
  exact wx_of h (n := n) ⟨_, _, hce, vp_in_nI hl g2, by rw [nI_clamp g1]; exact k⟩
theorem C_iald {t0 i a e : Nat} {x : Int32} (hnp : xN X < 2 ^ 31) (h : t.lookup pc = some (.iaload, len)) (hk : akd.getD t0 9 = 0) (ha : a = cA S t0 i) (he : cE S t0 i = true) (hx : x = nI e) (hl : e < lnt (xN X) t0) (k : WC X d t oc rt Qr (pc + 1) lv (.int (cI S t0 e i) :: r) S) : WC X d t oc rt Qr pc lv (.int x :: .ref a :: r) S := by
  subst ha; subst hx
  intro σ hσ
  obtain ⟨n, k⟩ := k σ hσ
  obtain ⟨g1, g2⟩ := lnt_lt hnp hl
  obtain ⟨q1, q2⟩ := akd_lt (t0 := t0) (by rw [hk]; decide)
  have hce := (Rl_cel (b := X.2.1) (L := X.2.2.1) (xs := X.2.2.2.1) hσ q2 he).trans (congrArg some (ccel_I q1 hk))
  exact wx_of h (n := n) ⟨_, _, hce, vp_in_nI hl g2, by rw [nI_clamp g1]; exact k⟩
theorem C_bald {t0 i a e : Nat} {x : Int32} (hnp : xN X < 2 ^ 31) (h : t.lookup pc = some (.baload, len)) (hk : akd.getD t0 9 = 2) (ha : a = cA S t0 i) (he : cE S t0 i = true) (hx : x = nI e) (hl : e < lnt (xN X) t0) (k : WC X d t oc rt Qr (pc + 1) lv (.int (cI S t0 e i) :: r) S) : WC X d t oc rt Qr pc lv (.int x :: .ref a :: r) S := by
  subst ha; subst hx
  intro σ hσ
  obtain ⟨n, k⟩ := k σ hσ
  obtain ⟨g1, g2⟩ := lnt_lt hnp hl
  obtain ⟨q1, q2⟩ := akd_lt (t0 := t0) (by rw [hk]; decide)
  have hce := (Rl_cel (b := X.2.1) (L := X.2.2.1) (xs := X.2.2.2.1) hσ q2 he).trans (congrArg some (ccel_B q1 hk))
  exact wx_of h (n := n) ⟨_, _, Or.inl hce, vp_in_nI hl g2, by rw [nI_clamp g1]; exact k⟩
theorem C_aald {t0 i a e q : Nat} {x : Int32} {v : Value} (hnp : xN X < 2 ^ 31) (h : t.lookup pc = some (.aaload, len)) (hk : akd.getD t0 9 = q) (hq : q = 4 ∨ q = 5) (ha : a = cA S t0 i) (he : cE S t0 i = true) (hx : x = nI e) (hl : e < lnt (xN X) t0) (hv : va_rf (cP S t0 e i) = v) (k : WC X d t oc rt Qr (pc + 1) lv (v :: r) S) : WC X d t oc rt Qr pc lv (.int x :: .ref a :: r) S := by
  subst ha; subst hx; subst hv
  intro σ hσ
  obtain ⟨n, k⟩ := k σ hσ
  obtain ⟨g1, g2⟩ := lnt_lt hnp hl
  obtain ⟨q1, q2⟩ := akd_lt (t0 := t0) (by rw [hk]; rcases hq with rfl | rfl <;> decide)
  have hce := (Rl_cel (b := X.2.1) (L := X.2.2.1) (xs := X.2.2.2.1) hσ q2 he).trans (congrArg some (ccel_R q1 hk hq))
  exact wx_of h (n := n) ⟨_, _, _, hce, hq, vp_in_nI hl g2, by rw [nI_clamp g1]; exact k⟩
theorem C_last {t0 i a e : Nat} {x : Int32} {y : Int64} (hnp : xN X < 2 ^ 31) (h : t.lookup pc = some (.lastore, len)) (hk : akd.getD t0 9 = 1) (ha : a = cA S t0 i) (he : cE S t0 i = true) (hx : x = nI e) (hl : e < lnt (xN X) t0) (k : WC X d t oc rt Qr (pc + 1) lv r (setJ S t0 e i y)) : WC X d t oc rt Qr pc lv (.long y :: .int x :: .ref a :: r) S := by
  subst ha; subst hx
  intro σ hσ
  obtain ⟨g1, g2⟩ := lnt_lt hnp hl
  obtain ⟨q1, q2⟩ := akd_lt (t0 := t0) (by rw [hk]; decide)
  have hce := (Rl_cel (b := X.2.1) (L := X.2.2.1) (xs := X.2.2.2.1) hσ q2 he).trans (congrArg some (ccel_J q1 hk))
  have hR := Rl_put (S' := setJ S t0 e i y) hσ q2 he rfl rfl rfl rfl setJ_put
  obtain ⟨n, k⟩ := k _ hR
  refine wx_of h (n := n) ?_
  refine ⟨_, _, hce, vp_in_nI hl g2, ?_⟩
  have hf : vp_updL (fun j => cJ S t0 j i) (nI e).toNatClampNeg y = (fun j => cJ (setJ S t0 e i y) t0 j i) := (by
    funext j
    show _ = up3 _ t0 e i _ t0 j i
    by_cases hj : j = e
    · subst hj
      rw [up3_s]
      simp [vp_updL, nI_clamp g1]
    · rw [up3_k hj]
      simp [vp_updL, nI_clamp g1, hj]
      rfl)
  rw [hf]
  rw [ccel_J q1 hk] at k
  exact k
theorem C_iast {t0 i a e : Nat} {x : Int32} {y : Int32} (hnp : xN X < 2 ^ 31) (h : t.lookup pc = some (.iastore, len)) (hk : akd.getD t0 9 = 0) (ha : a = cA S t0 i) (he : cE S t0 i = true) (hx : x = nI e) (hl : e < lnt (xN X) t0) (k : WC X d t oc rt Qr (pc + 1) lv r (setI S t0 e i y)) : WC X d t oc rt Qr pc lv (.int y :: .int x :: .ref a :: r) S := by
  subst ha; subst hx
  intro σ hσ
  obtain ⟨g1, g2⟩ := lnt_lt hnp hl
  obtain ⟨q1, q2⟩ := akd_lt (t0 := t0) (by rw [hk]; decide)
  have hce := (Rl_cel (b := X.2.1) (L := X.2.2.1) (xs := X.2.2.2.1) hσ q2 he).trans (congrArg some (ccel_I q1 hk))
  have hR := Rl_put (S' := setI S t0 e i y) hσ q2 he rfl rfl rfl rfl setI_put
  obtain ⟨n, k⟩ := k _ hR
  refine wx_of h (n := n) ?_
  refine ⟨_, _, hce, (hσ.1 t0 i q2 he).1, vp_in_nI hl g2, ?_⟩
  have hf : upd (fun j => cI S t0 j i) (nI e).toNatClampNeg y = (fun j => cI (setI S t0 e i y) t0 j i) := (by
    funext j
    show _ = up3 _ t0 e i _ t0 j i
    by_cases hj : j = e
    · subst hj
      rw [up3_s]
      simp [upd, nI_clamp g1]
    · rw [up3_k hj]
      simp [upd, nI_clamp g1, hj]
      rfl)
  rw [hf]
  rw [ccel_I q1 hk] at k
  exact k
theorem C_bast {t0 i a e : Nat} {x : Int32} {y : Int32} (hnp : xN X < 2 ^ 31) (h : t.lookup pc = some (.bastore, len)) (hk : akd.getD t0 9 = 2) (ha : a = cA S t0 i) (he : cE S t0 i = true) (hx : x = nI e) (hl : e < lnt (xN X) t0) (hy : vp_nar .byte y = y) (k : WC X d t oc rt Qr (pc + 1) lv r (setI S t0 e i y)) : WC X d t oc rt Qr pc lv (.int y :: .int x :: .ref a :: r) S := by
  subst ha; subst hx
  intro σ hσ
  obtain ⟨g1, g2⟩ := lnt_lt hnp hl
  obtain ⟨q1, q2⟩ := akd_lt (t0 := t0) (by rw [hk]; decide)
  have hce := (Rl_cel (b := X.2.1) (L := X.2.2.1) (xs := X.2.2.2.1) hσ q2 he).trans (congrArg some (ccel_B q1 hk))
  have hR := Rl_put (S' := setI S t0 e i y) hσ q2 he rfl rfl rfl rfl setI_put
  obtain ⟨n, k⟩ := k _ hR
  refine wx_of h (n := n) ?_
  refine ⟨_, _, vp_in_nI hl g2, Or.inl ⟨hce, ?_⟩⟩
  have hf : upd (fun j => cI S t0 j i) (nI e).toNatClampNeg (vp_nar .byte y) = (fun j => cI (setI S t0 e i y) t0 j i) := (by
    funext j
    show _ = up3 _ t0 e i _ t0 j i
    by_cases hj : j = e
    · subst hj
      rw [up3_s]
      simp [upd, nI_clamp g1, hy]
    · rw [up3_k hj]
      simp [upd, nI_clamp g1, hj]
      rfl)
  rw [hf]
  rw [ccel_B q1 hk] at k
  exact k
theorem C_aast {t0 i a e q cv : Nat} {x : Int32} {v : Nat} {tv iv : Nat} (hnp : xN X < 2 ^ 31) (h : t.lookup pc = some (.aastore, len)) (hk : akd.getD t0 9 = q) (hq : (q = 4 ∧ tv = 5) ∨ (q = 5 ∧ tv = 8)) (ha : a = cA S t0 i) (he : cE S t0 i = true) (hx : x = nI e) (hl : e < lnt (xN X) t0) (hv : v = cA S tv iv) (hev : cE S tv iv = true) (k : WC X d t oc rt Qr (pc + 1) lv r (setP S t0 e i (some v))) : WC X d t oc rt Qr pc lv (.ref v :: .int x :: .ref a :: r) S := by
  subst ha; subst hx
  intro σ hσ
  obtain ⟨g1, g2⟩ := lnt_lt hnp hl
  have hq' : q = 4 ∨ q = 5 := by rcases hq with ⟨h1, -⟩ | ⟨h1, -⟩ <;> simp [h1]
  obtain ⟨q1, q2⟩ := akd_lt (t0 := t0) (by rw [hk]; rcases hq' with rfl | rfl <;> decide)
  have hce := (Rl_cel (b := X.2.1) (L := X.2.2.1) (xs := X.2.2.2.1) hσ q2 he).trans (congrArg some (ccel_R q1 hk hq'))
  have hR := Rl_put (S' := setP S t0 e i (some v)) hσ q2 he rfl rfl rfl rfl setP_put
  obtain ⟨n, k⟩ := k _ hR
  refine wx_of h (n := n) ?_
  have hf : va_up (fun j => cP S t0 j i) (nI e).toNatClampNeg (some v) = (fun j => cP (setP S t0 e i (some v)) t0 j i) := by
    funext j
    show _ = up3 _ t0 e i _ t0 j i
    by_cases hj : j = e
    · subst hj
      rw [up3_s]
      simp [va_up, nI_clamp g1]
    · rw [up3_k hj]
      simp [va_up, nI_clamp g1, hj]
      rfl
  refine ⟨_, _, _, ofs S tv iv, hce, vp_in_nI hl g2, ?_, ?_⟩
  · subst hv
    rcases hq with ⟨rfl, rfl⟩ | ⟨rfl, rfl⟩
    · exact Or.inl ⟨rfl, (Rl_cel hσ (by omega) hev).trans (by rw [ccel_ob (by decide) rfl]; rfl)⟩
    · exact Or.inr ⟨rfl, (Rl_cel hσ (by omega) hev).trans (by rw [ccel_ob (by decide) rfl]; rfl)⟩
  · rw [hf]
    rw [ccel_R q1 hk hq'] at k
    exact k
theorem C_aastN {t0 i a e q : Nat} {x : Int32} (hnp : xN X < 2 ^ 31) (h : t.lookup pc = some (.aastore, len)) (hk : akd.getD t0 9 = q) (hq : q = 4 ∨ q = 5) (ha : a = cA S t0 i) (he : cE S t0 i = true) (hx : x = nI e) (hl : e < lnt (xN X) t0) (k : WC X d t oc rt Qr (pc + 1) lv r (setP S t0 e i none)) : WC X d t oc rt Qr pc lv (.null :: .int x :: .ref a :: r) S := by
  subst ha; subst hx
  intro σ hσ
  obtain ⟨g1, g2⟩ := lnt_lt hnp hl
  obtain ⟨q1, q2⟩ := akd_lt (t0 := t0) (by rw [hk]; rcases hq with rfl | rfl <;> decide)
  have hce := (Rl_cel (b := X.2.1) (L := X.2.2.1) (xs := X.2.2.2.1) hσ q2 he).trans (congrArg some (ccel_R q1 hk hq))
  have hR := Rl_put (S' := setP S t0 e i none) hσ q2 he rfl rfl rfl rfl setP_put
  obtain ⟨n, k⟩ := k _ hR
  refine wx_of h (n := n) ?_
  have hf : va_up (fun j => cP S t0 j i) (nI e).toNatClampNeg none = (fun j => cP (setP S t0 e i none) t0 j i) := by
    funext j
    show _ = up3 _ t0 e i _ t0 j i
    by_cases hj : j = e
    · subst hj
      rw [up3_s]
      simp [va_up, nI_clamp g1]
    · rw [up3_k hj]
      simp [va_up, nI_clamp g1, hj]
      rfl
  refine ⟨_, _, _, hce, hq, vp_in_nI hl g2, ?_⟩
  rw [hf]
  rw [ccel_R q1 hk hq] at k
  exact k
theorem C_copyJ {ix j w t1 i1 t0 i0 sp dp m : Nat} {xm xd xs_ : Int32} {a1 a0 : Nat} {S' : CS} (hnp : xN X < 2 ^ 31) (h : t.lookup pc = some (.invokestatic ix, len)) (hm : mres oc ix = some (7, j, w)) (hw : wgt r ≤ 8) (hk0 : akd.getD t0 9 = 1) (hk1 : akd.getD t1 9 = 1) (ha0 : a0 = cA S t0 i0) (ha1 : a1 = cA S t1 i1) (he0 : cE S t0 i0 = true) (he1 : cE S t1 i1 = true) (hxm : xm = nI m) (hxd : xd = nI dp) (hxs : xs_ = nI sp) (hl0 : sp + m ≤ lnt (xN X) t0) (hl1 : dp + m ≤ lnt (xN X) t1)
    (hS1 : cI S' = cI S) (hS2 : cP S' = cP S) (hS3 : cA S' = cA S) (hS4 : cE S' = cE S) (hS5 : cn S' = cn S) (hS6 : cz S' = cz S) (hS7 : ∀ t' k' i', ¬ (t' = t1 ∧ i' = i1) → cJ S' t' k' i' = cJ S t' k' i') (hS8 : ∀ k', cJ S' t1 k' i1 = va_cpy (fun e => cJ S t0 e i0) (fun e => cJ S t1 e i1) sp dp m k')
    (k : WC X d t oc rt Qr (pc + 3) lv r S') : WC X d t oc rt Qr pc lv (.int xm :: .int xd :: .ref a1 :: .int xs_ :: .ref a0 :: r) S := by
  subst ha0; subst ha1; subst hxm; subst hxd; subst hxs
  intro σ hσ
  obtain ⟨q1, q2⟩ := akd_lt (t0 := t0) (by rw [hk0]; decide)
  obtain ⟨p1, p2⟩ := akd_lt (t0 := t1) (by rw [hk1]; decide)
  have n0 : lnt (xN X) t0 < 2 ^ 31 := lnt_lt31 hnp t0
  have n1 : lnt (xN X) t1 < 2 ^ 31 := lnt_lt31 hnp t1
  have hce0 := (Rl_cel (b := X.2.1) (L := X.2.2.1) (xs := X.2.2.2.1) hσ q2 he0).trans (congrArg some (ccel_J q1 hk0))
  have hce1 := (Rl_cel (b := X.2.1) (L := X.2.2.1) (xs := X.2.2.2.1) hσ p2 he1).trans (congrArg some (ccel_J p1 hk1))
  have hR := Rl_put (S' := S') hσ p2 he1 hS3 hS4 hS5 hS6 (fun t' i' hne => ccel_congr (fun _ => by rw [hS1]) (fun k' => hS7 t' k' i' hne) (fun _ => by rw [hS2]))
  obtain ⟨n, k⟩ := k _ hR
  refine wx_of h (n := n) ?_
  simp only [ins, hm]
  refine ⟨hw, nI_pos (by omega), nI_pos (by omega), nI_pos (by omega), Or.inr ⟨_, _, _, _, hce0, hce1, ?_, ?_, ?_⟩⟩
  · rw [nI_clamp (by omega), nI_clamp (by omega)]; exact hl0
  · rw [nI_clamp (by omega), nI_clamp (by omega)]; exact hl1
  · rw [nI_clamp (by omega), nI_clamp (by omega), nI_clamp (by omega)]
    rw [ccel_J p1 hk1, show (fun j => cJ S' t1 j i1) = va_cpy (fun e => cJ S t0 e i0) (fun e => cJ S t1 e i1) sp dp m from funext hS8] at k
    exact k
theorem C_copyB {ix j w t1 i1 t0 i0 sp dp m : Nat} {xm xd xs_ : Int32} {a1 a0 : Nat} {S' : CS} (hnp : xN X < 2 ^ 31) (h : t.lookup pc = some (.invokestatic ix, len)) (hm : mres oc ix = some (7, j, w)) (hw : wgt r ≤ 8) (hk0 : akd.getD t0 9 = 2) (hk1 : akd.getD t1 9 = 2) (ha0 : a0 = cA S t0 i0) (ha1 : a1 = cA S t1 i1) (he0 : cE S t0 i0 = true) (he1 : cE S t1 i1 = true) (hxm : xm = nI m) (hxd : xd = nI dp) (hxs : xs_ = nI sp) (hl0 : sp + m ≤ lnt (xN X) t0) (hl1 : dp + m ≤ lnt (xN X) t1) (hfit : ∀ e, e < m → fits .byte (.int (cI S t0 (sp + e) i0)) = true)
    (hS1 : cJ S' = cJ S) (hS2 : cP S' = cP S) (hS3 : cA S' = cA S) (hS4 : cE S' = cE S) (hS5 : cn S' = cn S) (hS6 : cz S' = cz S) (hS7 : ∀ t' k' i', ¬ (t' = t1 ∧ i' = i1) → cI S' t' k' i' = cI S t' k' i') (hS8 : ∀ k', cI S' t1 k' i1 = va_cpy (fun e => cI S t0 e i0) (fun e => cI S t1 e i1) sp dp m k')
    (k : WC X d t oc rt Qr (pc + 3) lv r S') : WC X d t oc rt Qr pc lv (.int xm :: .int xd :: .ref a1 :: .int xs_ :: .ref a0 :: r) S := by
  subst ha0; subst ha1; subst hxm; subst hxd; subst hxs
  intro σ hσ
  obtain ⟨q1, q2⟩ := akd_lt (t0 := t0) (by rw [hk0]; decide)
  obtain ⟨p1, p2⟩ := akd_lt (t0 := t1) (by rw [hk1]; decide)
  have n0 : lnt (xN X) t0 < 2 ^ 31 := lnt_lt31 hnp t0
  have n1 : lnt (xN X) t1 < 2 ^ 31 := lnt_lt31 hnp t1
  have hce0 := (Rl_cel (b := X.2.1) (L := X.2.2.1) (xs := X.2.2.2.1) hσ q2 he0).trans (congrArg some (ccel_B q1 hk0))
  have hce1 := (Rl_cel (b := X.2.1) (L := X.2.2.1) (xs := X.2.2.2.1) hσ p2 he1).trans (congrArg some (ccel_B p1 hk1))
  have hR := Rl_put (S' := S') hσ p2 he1 hS3 hS4 hS5 hS6 (fun t' i' hne => ccel_congr (fun k' => hS7 t' k' i' hne) (fun _ => by rw [hS1]) (fun _ => by rw [hS2]))
  obtain ⟨n, k⟩ := k _ hR
  refine wx_of h (n := n) ?_
  simp only [ins, hm]
  refine ⟨hw, nI_pos (by omega), nI_pos (by omega), nI_pos (by omega), Or.inl ⟨_, _, _, _, hce0, hce1, ?_, ?_, ?_, ?_⟩⟩
  · rw [nI_clamp (by omega), nI_clamp (by omega)]; exact hl0
  · rw [nI_clamp (by omega), nI_clamp (by omega)]; exact hl1
  · rw [nI_clamp (by omega), nI_clamp (by omega)]; exact hfit
  · rw [nI_clamp (by omega), nI_clamp (by omega), nI_clamp (by omega)]
    rw [ccel_B p1 hk1, show (fun j => cI S' t1 j i1) = va_cpy (fun e => cI S t0 e i0) (fun e => cI S t1 e i1) sp dp m from funext hS8] at k
    exact k
theorem C_alen {t0 i a : Nat} (h : t.lookup pc = some (.arraylength, len)) (hk : akd.getD t0 9 ≠ 9) (ha : a = cA S t0 i) (he : cE S t0 i = true) (k : WC X d t oc rt Qr (pc + 1) lv (.int (nI (lnt (xN X) t0)) :: r) S) : WC X d t oc rt Qr pc lv (.ref a :: r) S := by
  subst ha
  intro σ hσ
  obtain ⟨n, k⟩ := k σ hσ
  obtain ⟨q1, q2⟩ := akd_lt hk
  have hce := Rl_cel (b := X.2.1) (L := X.2.2.1) (xs := X.2.2.2.1) hσ q2 he
  have hc : ∃ (q : Nat) (y : (Nat → Int32) ⊕ (Nat → Int64) ⊕ (Nat → UInt32) ⊕ (Nat → UInt64) ⊕ (Nat → Option Nat)), ccel X.2.2.2.2.1 S t0 i = .inl (q, lnt X.2.2.2.2.1 t0, y) ∧ q < 6 := by
    have h1 : (List.range 20).all (fun k => decide (akd.getD k 9 ≠ 9 → akd.getD k 9 < 6)) = true := by decide +kernel
    have h2 := of_decide_eq_true (List.all_eq_true.mp h1 t0 (List.mem_range.mpr q2)) hk
    unfold ccel
    rw [if_neg q1]
    split
    · exact ⟨_, _, rfl, by decide⟩
    · exact ⟨_, _, rfl, by decide⟩
    · exact ⟨_, _, rfl, by decide⟩
    · exact ⟨_, _, rfl, h2⟩
  obtain ⟨q, y, h3, h4⟩ := hc
  exact wx_of h (n := n) ⟨q, _, y, hce.trans (congrArg some h3), h4, k⟩
theorem C_iret {x : Int32} {ty : FieldType} (h : t.lookup pc = some (.ireturn, len)) (hr : rt = some ty) (hf : fitV ty (.int x)) (k : Qr (some (.int x)) S) : WC X d t oc rt Qr pc lv [.int x] S := by
  subst hr
  intro σ hσ
  exact wx_of h (n := 0) ⟨hf, S, hσ, k⟩
theorem C_lret {x : Int64} (h : t.lookup pc = some (.lreturn, len)) (hr : rt = some .long) (k : Qr (some (.long x)) S) : WC X d t oc rt Qr pc lv [.long x] S := by
  subst hr
  intro σ hσ
  exact wx_of h (n := 0) ⟨S, hσ, k⟩
theorem C_aret {a : Nat} {q : String} (h : t.lookup pc = some (.areturn, len)) (hr : rt = some (.object q)) (k : Qr (some (.ref a)) S) : WC X d t oc rt Qr pc lv [.ref a] S := by
  subst hr
  intro σ hσ
  exact wx_of h (n := 0) ⟨S, hσ, k⟩
theorem C_aretN {q : String} (h : t.lookup pc = some (.areturn, len)) (hr : rt = some (.object q)) (k : Qr (some .null) S) : WC X d t oc rt Qr pc lv [.null] S := by
  subst hr
  intro σ hσ
  exact wx_of h (n := 0) ⟨S, hσ, k⟩
theorem C_ret (h : t.lookup pc = some (.return_, len)) (hr : rt = none) (k : Qr none S) : WC X d t oc rt Qr pc lv [] S := by
  subst hr
  intro σ hσ
  exact wx_of h (n := 0) ⟨S, hσ, k⟩
theorem C_virt {i j ix a t0 i0 : Nat} {md : MD} {av rest : List Value} {Qc : Option Value → CS → Prop} (h : t.lookup pc = some (.invokevirtual i, len)) (hm : mres oc i = some (0, j, ix)) (hp : prog[j]? = some md) (h0 : st[md.2.2.2.2.1]? = some (.ref a)) (ht : t0 < 9) (hcl : tcl.getD t0 99 = md.2.2.2.2.2.1) (ha : a = cA S t0 i0) (he : cE S t0 i0 = true) (hav : .ref a :: (st.take md.2.2.2.2.1).reverse = av) (hrest : st.drop (md.2.2.2.2.1 + 1) = rest) (hw : wgt rest ≤ 8) (hc : CalC X d j av S Qc) (k : ∀ v S', Qc v S' → WC X d t oc rt Qr (pc + 3) lv (v.toList ++ rest) S') : WC X d t oc rt Qr pc lv st S := by
  subst hav; subst hrest; subst ha
  intro σ hσ
  obtain ⟨v, σ1, S', h1, h2, h3⟩ := hc σ hσ
  obtain ⟨n, k⟩ := k v S' h3 σ1 h2
  refine wx_of h (n := n) ?_
  simp only [ins, hm, hp]
  exact ⟨_, ofs S t0 i0, v, σ1, h0, (Rl_cel hσ (by omega) he).trans (by rw [ccel_ob ht hcl]), hw, h1, k⟩
theorem C_stat {i j ix kd : Nat} {md : MD} {av rest : List Value} {Qc : Option Value → CS → Prop} (h : t.lookup pc = some (.invokestatic i, len)) (hm : mres oc i = some (kd, j, ix)) (hkd : kd = 1 ∨ kd = 4) (hp : prog[j]? = some md) (hln : md.2.2.2.2.1 ≤ st.length) (hav : (st.take md.2.2.2.2.1).reverse = av) (hrest : st.drop md.2.2.2.2.1 = rest) (hw : wgt rest ≤ 8) (hc : CalC X d j av S Qc) (k : ∀ v S', Qc v S' → WC X d t oc rt Qr (pc + 3) lv (v.toList ++ rest) S') : WC X d t oc rt Qr pc lv st S := by
  subst hav; subst hrest
  intro σ hσ
  obtain ⟨v, σ1, S', h1, h2, h3⟩ := hc σ hσ
  obtain ⟨n, k⟩ := k v S' h3 σ1 h2
  refine wx_of h (n := n) ?_
  rcases hkd with rfl | rfl <;> (simp only [ins, hm, hp]; exact ⟨by decide, v, σ1, hln, hw, h1, k⟩)
theorem C_spec {i j ix kd a : Nat} {md : MD} {av rest : List Value} {Qc : Option Value → CS → Prop} (h : t.lookup pc = some (.invokespecial i, len)) (hm : mres oc i = some (kd, j, ix)) (hkd : kd = 2 ∨ kd = 5) (hp : prog[j]? = some md) (h0 : st[md.2.2.2.2.1]? = some (.ref a)) (hav : .ref a :: (st.take md.2.2.2.2.1).reverse = av) (hrest : st.drop (md.2.2.2.2.1 + 1) = rest) (hw : wgt rest ≤ 8) (hc : CalC X d j av S Qc) (k : ∀ v S', Qc v S' → WC X d t oc rt Qr (pc + 3) lv (v.toList ++ rest) S') : WC X d t oc rt Qr pc lv st S := by
  subst hav; subst hrest
  intro σ hσ
  obtain ⟨v, σ1, S', h1, h2, h3⟩ := hc σ hσ
  obtain ⟨n, k⟩ := k v S' h3 σ1 h2
  refine wx_of h (n := n) ?_
  rcases hkd with rfl | rfl <;> (simp only [ins, hm, hp]; exact ⟨by decide, a, v, σ1, h0, hw, h1, k⟩)
theorem C_objinit {i j ix a : Nat} (h : t.lookup pc = some (.invokespecial i, len)) (hm : mres oc i = some (6, j, ix)) (hw : wgt r ≤ 8) (k : WC X d t oc rt Qr (pc + 3) lv r S) : WC X d t oc rt Qr pc lv (.ref a :: r) S := by
  intro σ hσ
  obtain ⟨n, k⟩ := k σ hσ
  refine wx_of h (n := n) ?_
  simp only [ins, hm]
  exact ⟨hw, k⟩
theorem C_max {i j ix : Nat} {x y v : Int32} (h : t.lookup pc = some (.invokestatic i, len)) (hm : mres oc i = some (8, j, ix)) (hw : wgt r ≤ 8) (hv : (if x < y then y else x) = v) (k : WC X d t oc rt Qr (pc + 3) lv (.int v :: r) S) : WC X d t oc rt Qr pc lv (.int y :: .int x :: r) S := by
  subst hv
  intro σ hσ
  obtain ⟨n, k⟩ := k σ hσ
  refine wx_of h (n := n) ?_
  simp only [ins, hm]
  exact ⟨hw, k⟩
theorem C_min {i j ix : Nat} {x y v : Int32} (h : t.lookup pc = some (.invokestatic i, len)) (hm : mres oc i = some (9, j, ix)) (hw : wgt r ≤ 8) (hv : (if y < x then y else x) = v) (k : WC X d t oc rt Qr (pc + 3) lv (.int v :: r) S) : WC X d t oc rt Qr pc lv (.int y :: .int x :: r) S := by
  subst hv
  intro σ hσ
  obtain ⟨n, k⟩ := k σ hσ
  refine wx_of h (n := n) ?_
  simp only [ins, hm]
  exact ⟨hw, k⟩
theorem C_new {ix ci t0 i a : Nat} {w : Nat × Nat × Nat} (h : t.lookup pc = some (.new ix, len)) (hcr : cres oc ix = some (ci, w)) (ht : t0 < 9) (hc : tcl.getD t0 99 = ci) (hd : dfl.getD ci [] = ofs (newS S (xZ X) t0 i (nF ci)) t0 i) (he : cE S t0 i = false) (ha : xZ X + cn S = a) (k : WC X d t oc rt Qr (pc + 3) lv (.ref a :: st) (newS S (xZ X) t0 i (nF ci))) : WC X d t oc rt Qr pc lv st S := by
  subst ha
  intro σ hσ
  have hce : ccel X.2.2.2.2.1 (newS S X.1 t0 i (nF ci)) t0 i = oB ci (dfl.getD ci []) := by
    rw [ccel_ob ht hc, ← hd]
  have hR := Rl_new (t := t0) (i := i) (w := nF ci) hσ (by omega) he (by rw [hce]; rfl)
  obtain ⟨n, k⟩ := k _ hR
  refine wx_of h (n := n) ?_
  simp only [ins, hcr]
  have hlen : σ.length = cn S := hσ.2.2.2.1
  rw [hlen, ← hce]
  exact k
theorem C_newB {t0 i a : Nat} {x : Int32} (h : t.lookup pc = some (.newarray .byte, len)) (hk : akd.getD t0 9 = 2) (hx : x = nI (lnt (xN X) t0)) (hl : lnt (xN X) t0 ≤ 80000) (he : cE S t0 i = false) (ha : xZ X + cn S = a) (k : WC X d t oc rt Qr (pc + 2) lv (.ref a :: r) (newS S (xZ X) t0 i (lnt (xN X) t0))) : WC X d t oc rt Qr pc lv (.int x :: r) S := by
  subst ha; subst hx
  intro σ hσ
  obtain ⟨q1, q2⟩ := akd_lt (t0 := t0) (by rw [hk]; decide)
  have hce : ccel X.2.2.2.2.1 (newS S X.1 t0 i (lnt X.2.2.2.2.1 t0)) t0 i = aB (lnt X.2.2.2.2.1 t0) (fun _ => 0) := by
    rw [ccel_B q1 hk]
    congr 4
    funext j
    exact newS_s.1 j
  have hR := Rl_new (t := t0) (i := i) (w := lnt X.2.2.2.2.1 t0) hσ q2 he (by rw [hce]; rfl)
  obtain ⟨n, k⟩ := k _ hR
  have h31 : lnt X.2.2.2.2.1 t0 < 2 ^ 31 := Nat.lt_of_le_of_lt hl (by decide)
  have hlen : σ.length = cn S := hσ.2.2.2.1
  refine wx_of h (n := n) ⟨nI_pos h31, by rw [nI_clamp h31]; exact hl, ?_⟩
  show wpX X d t oc rt (QS X Qr) n (pc + 2) lv (.ref (X.1 + σ.length) :: r) (σ ++ [aB (nI (lnt X.2.2.2.2.1 t0)).toNatClampNeg (fun _ => 0)])
  rw [nI_clamp h31, hlen, ← hce]
  exact k
theorem C_newJ {t0 i a : Nat} {x : Int32} (h : t.lookup pc = some (.newarray .long, len)) (hk : akd.getD t0 9 = 1) (hx : x = nI (lnt (xN X) t0)) (hl : lnt (xN X) t0 ≤ 80000) (he : cE S t0 i = false) (ha : xZ X + cn S = a) (k : WC X d t oc rt Qr (pc + 2) lv (.ref a :: r) (newS S (xZ X) t0 i (lnt (xN X) t0))) : WC X d t oc rt Qr pc lv (.int x :: r) S := by
  subst ha; subst hx
  intro σ hσ
  obtain ⟨q1, q2⟩ := akd_lt (t0 := t0) (by rw [hk]; decide)
  have hce : ccel X.2.2.2.2.1 (newS S X.1 t0 i (lnt X.2.2.2.2.1 t0)) t0 i = aJ (lnt X.2.2.2.2.1 t0) (fun _ => 0) := by
    rw [ccel_J q1 hk]
    congr 5
    funext j
    exact newS_s.2.1 j
  have hR := Rl_new (t := t0) (i := i) (w := lnt X.2.2.2.2.1 t0) hσ q2 he (by rw [hce]; rfl)
  obtain ⟨n, k⟩ := k _ hR
  have h31 : lnt X.2.2.2.2.1 t0 < 2 ^ 31 := Nat.lt_of_le_of_lt hl (by decide)
  have hlen : σ.length = cn S := hσ.2.2.2.1
  refine wx_of h (n := n) ⟨nI_pos h31, by rw [nI_clamp h31]; exact hl, ?_⟩
  show wpX X d t oc rt (QS X Qr) n (pc + 2) lv (.ref (X.1 + σ.length) :: r) (σ ++ [aJ (nI (lnt X.2.2.2.2.1 t0)).toNatClampNeg (fun _ => 0)])
  rw [nI_clamp h31, hlen, ← hce]
  exact k
theorem C_newI {t0 i a : Nat} {x : Int32} (h : t.lookup pc = some (.newarray .int, len)) (hk : akd.getD t0 9 = 0) (hx : x = nI (lnt (xN X) t0)) (hl : lnt (xN X) t0 ≤ 80000) (he : cE S t0 i = false) (ha : xZ X + cn S = a) (k : WC X d t oc rt Qr (pc + 2) lv (.ref a :: r) (newS S (xZ X) t0 i (lnt (xN X) t0))) : WC X d t oc rt Qr pc lv (.int x :: r) S := by
  subst ha; subst hx
  intro σ hσ
  obtain ⟨q1, q2⟩ := akd_lt (t0 := t0) (by rw [hk]; decide)
  have hce : ccel X.2.2.2.2.1 (newS S X.1 t0 i (lnt X.2.2.2.2.1 t0)) t0 i = aI (lnt X.2.2.2.2.1 t0) (fun _ => 0) := by
    rw [ccel_I q1 hk]
    congr 4
    funext j
    exact newS_s.1 j
  have hR := Rl_new (t := t0) (i := i) (w := lnt X.2.2.2.2.1 t0) hσ q2 he (by rw [hce]; rfl)
  obtain ⟨n, k⟩ := k _ hR
  have h31 : lnt X.2.2.2.2.1 t0 < 2 ^ 31 := Nat.lt_of_le_of_lt hl (by decide)
  have hlen : σ.length = cn S := hσ.2.2.2.1
  refine wx_of h (n := n) ⟨nI_pos h31, by rw [nI_clamp h31]; exact hl, ?_⟩
  show wpX X d t oc rt (QS X Qr) n (pc + 2) lv (.ref (X.1 + σ.length) :: r) (σ ++ [aI (nI (lnt X.2.2.2.2.1 t0)).toNatClampNeg (fun _ => 0)])
  rw [nI_clamp h31, hlen, ← hce]
  exact k
theorem C_newR {ix t0 i a q w : Nat} {x : Int32} (h : t.lookup pc = some (.anewarray ix, len)) (hqr : qres oc ix = some (q, w)) (hk : akd.getD t0 9 = q) (hq : q = 4 ∨ q = 5) (hx : x = nI (lnt (xN X) t0)) (hl : lnt (xN X) t0 ≤ 80000) (he : cE S t0 i = false) (ha : xZ X + cn S = a) (k : WC X d t oc rt Qr (pc + 3) lv (.ref a :: r) (newS S (xZ X) t0 i (lnt (xN X) t0))) : WC X d t oc rt Qr pc lv (.int x :: r) S := by
  subst ha; subst hx
  intro σ hσ
  obtain ⟨q1, q2⟩ := akd_lt (t0 := t0) (by rw [hk]; rcases hq with rfl | rfl <;> decide)
  have hce : ccel X.2.2.2.2.1 (newS S X.1 t0 i (lnt X.2.2.2.2.1 t0)) t0 i = aR q (lnt X.2.2.2.2.1 t0) (fun _ => none) := by
    rw [ccel_R q1 hk hq]
    congr 7
    funext j
    exact newS_s.2.2.1 j
  have hR := Rl_new (t := t0) (i := i) (w := lnt X.2.2.2.2.1 t0) hσ q2 he (by rw [hce]; rfl)
  obtain ⟨n, k⟩ := k _ hR
  have h31 : lnt X.2.2.2.2.1 t0 < 2 ^ 31 := Nat.lt_of_le_of_lt hl (by decide)
  have hlen : σ.length = cn S := hσ.2.2.2.1
  refine wx_of h (n := n) ?_
  simp only [ins, hqr]
  refine ⟨nI_pos h31, by rw [nI_clamp h31]; exact hl, ?_⟩
  rw [nI_clamp h31, hlen, ← hce]
  exact k
theorem C_top {v w : Value} (h : v = w) (k : WC X d t oc rt Qr pc lv (w :: r) S) : WC X d t oc rt Qr pc lv (v :: r) S := h ▸ k
theorem C_topi {x y : Int32} (h : x = y) (k : WC X d t oc rt Qr pc lv (.int y :: r) S) : WC X d t oc rt Qr pc lv (.int x :: r) S := h ▸ k
theorem C_topl {x y : Int64} (h : x = y) (k : WC X d t oc rt Qr pc lv (.long y :: r) S) : WC X d t oc rt Qr pc lv (.long x :: r) S := h ▸ k
theorem C_iaddN {a b : Nat} (h : t.lookup pc = some (.iadd, len)) (k : WC X d t oc rt Qr (pc + 1) lv (.int (nI (a + b)) :: r) S) : WC X d t oc rt Qr pc lv (.int (nI b) :: .int (nI a) :: r) S := C_iadd h (by rw [nI_add]; exact k)
theorem C_imulN {a b : Nat} (h : t.lookup pc = some (.imul, len)) (k : WC X d t oc rt Qr (pc + 1) lv (.int (nI (a * b)) :: r) S) : WC X d t oc rt Qr pc lv (.int (nI b) :: .int (nI a) :: r) S := C_imul h (by rw [pk_mul]; exact k)
theorem C_isubN {a b : Nat} (h : t.lookup pc = some (.isub, len)) (hb : b ≤ a) (k : WC X d t oc rt Qr (pc + 1) lv (.int (nI (a - b)) :: r) S) : WC X d t oc rt Qr pc lv (.int (nI b) :: .int (nI a) :: r) S := C_isub h (by rw [pk_sub hb]; exact k)
end CR
theorem CalC_of {X : Ev} {d j : Nat} {md : MD} {av : List Value} {S : CS} {Qc : Option Value → CS → Prop} (hp : prog[j]? = some md) (hl : (lg_sl av).length ≤ md.2.2.1) (h : WC X d md.2.2.2.2.2.2.2 md.2.2.2.2.2.1 md.2.2.2.1 Qc 0 (lv_args 0 av) [] S) : CalC X (d + 1) j av S Qc := by
  intro σ hσ
  obtain ⟨n, h⟩ := h σ hσ
  obtain ⟨v, σ1, ⟨S', hR, hQ⟩, h⟩ := wp_ex n _ _ _ _ h
  refine ⟨v, σ1, S', ?_, hR, hQ⟩
  simp only [CalX, Cal, hp]
  exact ⟨hl, n, h⟩
theorem CalC.mono {X : Ev} {d j : Nat} {av : List Value} {S : CS} {Q Q' : Option Value → CS → Prop} (h : CalC X d j av S Q) (hq : ∀ v S', Q v S' → Q' v S') : CalC X d j av S Q' := by
  intro σ hσ
  obtain ⟨v, σ1, S', h1, h2, h3⟩ := h σ hσ
  exact ⟨v, σ1, S', h1, h2, hq v S' h3⟩
end
section
/-! ===== the class: values packed in one number, small methods ===== -/
def pkv (k x : Int32) : Int64 := (k.toInt64 <<< ((nI 32).toInt64 &&& 63)) ||| (x.toInt64 &&& 4294967295)
def knd (v : Int64) : Int32 := (v.toUInt64 >>> ((nI 32).toInt64.toUInt64 &&& Int64.toUInt64 63)).toInt64.toInt32
theorem c_pack {X : Ev} {d : Nat} {S : CS} {k x : Int32} : CalC X (d + 1) j_X8_pack [.int k, .int x] S (fun v S' => v = some (.long (pkv k x)) ∧ S' = S) := by
  refine CalC_of (md := md_X8_pack) rfl (Nat.le_of_ble_eq_true rfl) ?_
  show WC X d t_X8_pack 8 (some .long) _ 0 [(0, .int k), (1, .int x)] [] _
  refine C_iload_n rfl rfl ?_
  refine C_i2l rfl ?_
  refine C_bipush (y := nI 32) rfl (by decide) ?_
  refine C_lshl rfl rfl ?_
  refine C_iload_n rfl rfl ?_
  refine C_i2l rfl ?_
  refine C_ldc2_w rfl rfl ?_
  refine C_land rfl ?_
  refine C_lor rfl ?_
  exact C_lret rfl rfl ⟨rfl, rfl⟩
theorem c_kindOf {X : Ev} {d : Nat} {S : CS} {x : Int64} : CalC X (d + 1) j_X8_kindOf [.long x] S (fun v S' => v = some (.int (knd x)) ∧ S' = S) := by
  refine CalC_of (md := md_X8_kindOf) rfl (Nat.le_of_ble_eq_true rfl) ?_
  show WC X d t_X8_kindOf 8 (some .int) _ 0 [(0, .long x)] [] _
  refine C_lload_n rfl rfl ?_
  refine C_bipush (y := nI 32) rfl (by decide) ?_
  refine C_lushr rfl rfl ?_
  refine C_l2i rfl ?_
  exact C_iret rfl rfl (by first | trivial | exact Or.inl rfl | exact Or.inr rfl | assumption) ⟨rfl, rfl⟩
theorem c_numberOf {X : Ev} {d : Nat} {S : CS} {x : Int64} : CalC X (d + 1) j_X8_numberOf [.long x] S (fun v S' => v = some (.int x.toInt32) ∧ S' = S) := by
  refine CalC_of (md := md_X8_numberOf) rfl (Nat.le_of_ble_eq_true rfl) ?_
  show WC X d t_X8_numberOf 8 (some .int) _ 0 [(0, .long x)] [] _
  refine C_lload_n rfl rfl ?_
  refine C_l2i rfl ?_
  exact C_iret rfl rfl (by first | trivial | exact Or.inl rfl | exact Or.inr rfl | assumption) ⟨rfl, rfl⟩
theorem c_truth {X : Ev} {d : Nat} {S : CS} {x : Int32} : CalC X (d + 2) j_X8_truth [.int x] S (fun v S' => v = some (.long (pkv 1 (if x = 0 then 0 else 1))) ∧ S' = S) := by
  refine CalC_of (md := md_X8_truth) (d := d + 1) rfl (Nat.le_of_ble_eq_true rfl) ?_
  show WC X (d + 1) t_X8_truth 8 (some .long) _ 0 [(0, .int x)] [] _
  refine C_iconst (y := nI 1) rfl (by decide) ?_
  refine C_iload_n rfl rfl ?_
  refine C_if (pc' := 9) rfl rfl (fun hc => ?_) (fun hc => ?_)
  · rw [if_pos (show x = 0 from hc)]
    refine C_iconst (y := nI 0) rfl (by decide) ?_
    refine C_stat rfl rfl (by decide) rfl (Nat.le_of_ble_eq_true rfl) rfl rfl (Nat.le_of_ble_eq_true rfl) (c_pack) ?_
    rintro _ _ ⟨rfl, rfl⟩
    exact C_lret rfl rfl ⟨rfl, rfl⟩
  · rw [if_neg (show ¬ x = 0 from hc)]
    refine C_iconst (y := nI 1) rfl (by decide) ?_
    refine C_goto (pc' := 10) rfl rfl ?_
    refine C_stat rfl rfl (by decide) rfl (Nat.le_of_ble_eq_true rfl) rfl rfl (Nat.le_of_ble_eq_true rfl) (c_pack) ?_
    rintro _ _ ⟨rfl, rfl⟩
    exact C_lret rfl rfl ⟨rfl, rfl⟩
theorem c_told0 {X : Ev} {d : Nat} {S : CS} {x : Int64} : CalC X (d + 2) j_X8_told [.long x, .int 0] S (fun v S' => v = some (.int (knd x)) ∧ S' = S) := by
  refine CalC_of (md := md_X8_told) (d := d + 1) rfl (Nat.le_of_ble_eq_true rfl) ?_
  show WC X (d + 1) t_X8_told 8 (some .int) _ 0 [(0, .long x), (2, .int 0)] [] _
  refine C_iload_n rfl rfl ?_
  refine C_lookup (pc' := 28) rfl (by decide) ?_
  refine C_lload_n rfl rfl ?_
  refine C_stat rfl rfl (by decide) rfl (Nat.le_of_ble_eq_true rfl) rfl rfl (Nat.le_of_ble_eq_true rfl) (c_kindOf) ?_
  rintro _ _ ⟨rfl, rfl⟩
  exact C_iret rfl rfl (by first | trivial | exact Or.inl rfl | exact Or.inr rfl | assumption) ⟨rfl, rfl⟩
theorem c_told1 {X : Ev} {d : Nat} {S : CS} {x : Int64} : CalC X (d + 2) j_X8_told [.long x, .int 1] S (fun v S' => v = some (.int x.toInt32) ∧ S' = S) := by
  refine CalC_of (md := md_X8_told) (d := d + 1) rfl (Nat.le_of_ble_eq_true rfl) ?_
  show WC X (d + 1) t_X8_told 8 (some .int) _ 0 [(0, .long x), (2, .int 1)] [] _
  refine C_iload_n rfl rfl ?_
  refine C_lookup (pc' := 33) rfl (by decide) ?_
  refine C_lload_n rfl rfl ?_
  refine C_stat rfl rfl (by decide) rfl (Nat.le_of_ble_eq_true rfl) rfl rfl (Nat.le_of_ble_eq_true rfl) (c_numberOf) ?_
  rintro _ _ ⟨rfl, rfl⟩
  exact C_iret rfl rfl (by first | trivial | exact Or.inl rfl | exact Or.inr rfl | assumption) ⟨rfl, rfl⟩
theorem c_told {X : Ev} {d : Nat} {S : CS} {x : Int64} {w : Int32} (h0 : ¬ w = 0) (h1 : ¬ w = 1) : CalC X (d + 2) j_X8_told [.long x, .int w] S (fun v S' => v = some (.int (-1)) ∧ S' = S) := by
  refine CalC_of (md := md_X8_told) (d := d + 1) rfl (Nat.le_of_ble_eq_true rfl) ?_
  show WC X (d + 1) t_X8_told 8 (some .int) _ 0 [(0, .long x), (2, .int w)] [] _
  refine C_iload_n rfl rfl ?_
  refine C_lookup (pc' := 38) rfl (by
    show jt 1 (Op.lookupswitch.offset [(0, 27), (1, 32)] 37 w.toInt) = 38
    rw [lv_osw h0 (by decide), lv_osw h1 (by decide)]
    rfl) ?_
  refine C_iconst (y := (-1)) rfl (by decide) ?_
  exact C_iret rfl rfl (by first | trivial | exact Or.inl rfl | exact Or.inr rfl | assumption) ⟨rfl, rfl⟩
theorem c_size {X : Ev} {d : Nat} {S : CS} {i n : Nat} (he : cE S 8 i = true) (hn : cI S 8 4 i = nI n) : CalC X (d + 1) j_X6_size [.ref (cA S 8 i)] S (fun v S' => v = some (.int (nI (3 + n))) ∧ S' = S) := by
  refine CalC_of (md := md_X6_size) rfl (Nat.le_of_ble_eq_true rfl) ?_
  show WC X d t_X6_size 6 (some .int) _ 0 [(0, .ref (cA S 8 i))] [] _
  refine C_iconst (y := nI 3) rfl (by decide) ?_
  first | refine C_aload_n rfl rfl ?_ | refine C_aload_nN rfl rfl ?_
  refine C_getI (t0 := 8) rfl rfl (by decide) rfl rfl (Or.inl rfl) rfl (by assumption) ?_
  try refine C_topi (y := nI _) (by assumption) ?_
  first | refine C_iaddN rfl ?_ | refine C_iadd rfl ?_
  exact C_iret rfl rfl (by first | trivial | exact Or.inl rfl | exact Or.inr rfl | assumption) ⟨rfl, rfl⟩
theorem c_youngLeft {X : Ev} {d : Nat} {S : CS} (he : cE S 3 0 = true) : CalC X (d + 1) j_X2_youngLeft [.ref (cA S 3 0)] S (fun v S' => v = some (.int (cI S 3 8 0 - cI S 3 0 0)) ∧ S' = S) := by
  refine CalC_of (md := md_X2_youngLeft) rfl (Nat.le_of_ble_eq_true rfl) ?_
  show WC X d t_X2_youngLeft 2 (some .int) _ 0 [(0, .ref (cA S 3 0))] [] _
  first | refine C_aload_n rfl rfl ?_ | refine C_aload_nN rfl rfl ?_
  refine C_getI (t0 := 3) rfl rfl (by decide) rfl rfl (Or.inl rfl) rfl (by assumption) ?_
  try refine C_topi (y := nI _) (by assumption) ?_
  first | refine C_aload_n rfl rfl ?_ | refine C_aload_nN rfl rfl ?_
  refine C_getI (t0 := 3) rfl rfl (by decide) rfl rfl (Or.inl rfl) rfl (by assumption) ?_
  try refine C_topi (y := nI _) (by assumption) ?_
  first | refine C_isubN rfl (by omega) ?_ | refine C_isub rfl ?_
  exact C_iret rfl rfl (by first | trivial | exact Or.inl rfl | exact Or.inr rfl | assumption) ⟨rfl, rfl⟩
theorem c_oldLeft {X : Ev} {d : Nat} {S : CS} (he : cE S 3 0 = true) : CalC X (d + 1) j_X2_oldLeft [.ref (cA S 3 0)] S (fun v S' => v = some (.int (cI S 3 9 0 - cI S 3 1 0)) ∧ S' = S) := by
  refine CalC_of (md := md_X2_oldLeft) rfl (Nat.le_of_ble_eq_true rfl) ?_
  show WC X d t_X2_oldLeft 2 (some .int) _ 0 [(0, .ref (cA S 3 0))] [] _
  first | refine C_aload_n rfl rfl ?_ | refine C_aload_nN rfl rfl ?_
  refine C_getI (t0 := 3) rfl rfl (by decide) rfl rfl (Or.inl rfl) rfl (by assumption) ?_
  try refine C_topi (y := nI _) (by assumption) ?_
  first | refine C_aload_n rfl rfl ?_ | refine C_aload_nN rfl rfl ?_
  refine C_getI (t0 := 3) rfl rfl (by decide) rfl rfl (Or.inl rfl) rfl (by assumption) ?_
  try refine C_topi (y := nI _) (by assumption) ?_
  first | refine C_isubN rfl (by omega) ?_ | refine C_isub rfl ?_
  exact C_iret rfl rfl (by first | trivial | exact Or.inl rfl | exact Or.inr rfl | assumption) ⟨rfl, rfl⟩
theorem c_indexOf {X : Ev} {d : Nat} {S : CS} {i n : Nat} {x : Int32} (hnp : xN X < 2 ^ 31) (he : cE S 8 i = true) (hen : cE S 18 i = true) (hp : cP S 8 1 i = some (cA S 18 i)) (hn : cI S 8 4 i = nI n) (hn4 : n ≤ 40) (hx : ∀ s, s < n → cI S 18 s i ≠ x) : CalC X (d + 1) j_X6_indexOf [.ref (cA S 8 i), .int x] S (fun v S' => v = some (.int (-1)) ∧ S' = S) := by
  refine CalC_of (md := md_X6_indexOf) rfl (Nat.le_of_ble_eq_true rfl) ?_
  show WC X d t_X6_indexOf 6 (some .int) _ 0 [(0, .ref (cA S 8 i)), (1, .int x)] [] _
  refine C_iconst (y := nI 0) rfl (by decide) ?_
  refine C_istore_n (lv' := [(2, _), (0, _), (1, _)]) rfl rfl ?_
  have lp : ∀ (k s : Nat), s ≤ n → n - s ≤ k → WC X d t_X6_indexOf 6 (some .int) (fun v S' => v = some (.int (-1)) ∧ S' = S) 2 [(2, .int (nI s)), (0, .ref (cA S 8 i)), (1, .int x)] [] S := by
    intro k
    induction k with
    | zero =>
      intro s hs hk
      refine C_iload_n rfl rfl ?_
      first | refine C_aload_n rfl rfl ?_ | refine C_aload_nN rfl rfl ?_
      refine C_getI (t0 := 8) rfl rfl (by decide) rfl rfl (Or.inl rfl) rfl (by assumption) ?_
      try refine C_topi (y := nI _) (by assumption) ?_
      refine C_icmp (pc' := 28) rfl rfl (fun hc => ?_) (fun hc => ?_)
      · refine C_iconst (y := (-1)) rfl (by decide) ?_
        exact C_iret rfl rfl (by first | trivial | exact Or.inl rfl | exact Or.inr rfl | assumption) ⟨rfl, rfl⟩
      · exact absurd (nI_le (by omega) (by omega)) hc
    | succ k ih =>
      intro s hs hk
      refine C_iload_n rfl rfl ?_
      first | refine C_aload_n rfl rfl ?_ | refine C_aload_nN rfl rfl ?_
      refine C_getI (t0 := 8) rfl rfl (by decide) rfl rfl (Or.inl rfl) rfl (by assumption) ?_
      try refine C_topi (y := nI _) (by assumption) ?_
      refine C_icmp (pc' := 28) rfl rfl (fun hc => ?_) (fun hc => ?_)
      · refine C_iconst (y := (-1)) rfl (by decide) ?_
        exact C_iret rfl rfl (by first | trivial | exact Or.inl rfl | exact Or.inr rfl | assumption) ⟨rfl, rfl⟩
      · have hlt : s < n := Nat.lt_of_not_le (fun q => hc (nI_le q (by omega)))
        have h40 : s < lnt (xN X) 18 := show s < 40 from by omega
        first | refine C_aload_n rfl rfl ?_ | refine C_aload_nN rfl rfl ?_
        first | refine C_getR (t0 := 8) rfl rfl (by decide) rfl rfl (Or.inr ⟨_, rfl⟩) rfl (by assumption) (by assumption) ?_ | refine C_getN (t0 := 8) rfl rfl (by decide) rfl rfl (Or.inr ⟨_, rfl⟩) rfl (by assumption) (by assumption) ?_
        refine C_iload_n rfl rfl ?_
        refine C_bald hnp rfl rfl rfl (by assumption) rfl (by first | assumption | (show _ < _; omega)) ?_
        try refine C_topi (y := nI _) (by assumption) ?_
        refine C_iload_n rfl rfl ?_
        refine C_icmp (pc' := 22) rfl rfl (fun hc => ?_) (fun hc => ?_)
        · refine C_iinc (lv' := [(2, _), (0, _), (1, _)]) rfl rfl (by exact nI_1 _) rfl ?_
          refine C_goto (pc' := 2) rfl rfl ?_
          exact ih (s + 1) (by omega) (by omega)
        · exact absurd (hx s hlt) hc
  exact lp n 0 (Nat.zero_le _) (Nat.le_refl _)
end
section
theorem law_ok : LawOk := sorry
theorem whole_start {p : Program} {e : Env} {s : State} {m : MethodId} {below : List Frame} {meth : Method} {c : Code} (l : Launch) {b L : Nat} {xs : Nat → Int32} (hL : L ≤ 2050) (C0 : lw_At p s m meth c b L xs) : W p l e room_1 s m #[Value.ref b] below meth c s.heap [] 0 0 (lw_Z below #[Value.ref b] s) (entryFrame m ([Value.ref b] : List Value).toArray 4) := whole_of prog_ok kt_law law_ok l hL C0
-- ===== YOUR PART ENDS =====
set_option maxHeartbeats 4000000 in
theorem lw_walk (l : Launch) (b : Addr) (xs : List Int32) : MetFree l x (headSpec (Jvm.Cond.code x code maxLocals ret :: tables_1) room_1) (lw_P b xs) (fun _ _ _ _ _ => True) lw_Q := by
  refine MetFree.of_bodyS (code := code) (maxLocals := maxLocals) (ret := ret) (by decide) ?_ ?_
  · intro args s m h hn
    obtain ⟨meth, c, h1, h2, h3, h4, h5, h6, -, -⟩ := Cond.code_spec hn (atoms_spec (ws := Jvm.Cond.code x code maxLocals ret :: tables_1) h _ List.mem_cons_self)
    exact ⟨meth, c, h1, h2, h3, h4, h5, h6⟩
  · intro p e s m args below meth c s₁ B hml0 hP _
    obtain ⟨rfl, hx, hbd, hgv⟩ := hP
    obtain ⟨scr, harrAt, hlist, hof, hsmall⟩ := hx
    obtain ⟨hcb, hkn, -, -⟩ := State.arrayAt?_spec harrAt
    have hown : s.vm.findClass R_law = some m.cls := findClass_of_methodNamed B.named
    have hts0 : ∀ c ∈ (Jvm.Cond.code x code maxLocals ret :: tables_1), c.before #[Value.ref b] s = true := atoms_spec (ws := Jvm.Cond.code x code maxLocals ret :: tables_1) B.pre
    have hts : ∀ w ∈ lw_tbl, w.before #[Value.ref b] s = true := k2_hts_sels lw_privs (fun w hw => hts0 w (List.mem_cons_of_mem _ hw)) lw_privs_ok
    have hml : c.maxLocals = 4 := B.maxLocals_eq (hts0 _ List.mem_cons_self)
    have X₀ : Stand p l e room_1 s m #[Value.ref b] below meth c s₁ [] 0 0 := Stand.of_body B
    have hh0 : s₁.heap = s.heap := by rw [B.state]; rfl
    have hsz : scr.slots.size = xs.length := by rw [← Array.length_toList, hlist, List.length_map]
    have hval : ∀ j : Nat, j < xs.length → scr.slots[j]? = some (.int (xs.getD j 0)) := fun j hj => by
      rw [← Array.getElem?_toList, hlist]
      simp [hj]
    have hbl : b < s.heap.size := (Array.getElem?_eq_some_iff.mp hcb).1
    have hX : va_X b xs.length (fun j => xs.getD j 0) s s.heap := ⟨scr, hcb, hof, hkn, hsz, hval⟩
    have K : W p l e room_1 s m #[Value.ref b] below meth c s₁.heap [] 0 0 (lw_Z below #[Value.ref b] s) (entryFrame m ([Value.ref b] : List Value).toArray 4) := by
      rw [hh0]
      exact whole_start l hbd ⟨B.exec, B.bytes, B.returns, hml, hown, hts, hX, hbl, B.notSynchronized, hgv⟩
    obtain ⟨t, a1, o, b1, b2, b3⟩ := K s₁ rfl X₀
    exact ⟨t, o, a1, b1, b2, b3⟩
theorem lw_pre_spec {args : Array Value} {s : State} (h : (Jvm.Cond.and given_1 narrow_1).before args s = true) (hr : rest_1_c.before args s = true) : ∃ (b : Addr) (xs : List Int32), lw_P b xs args s := by
  have hs := flat_of_before _ h
  have hq := flat_of_before _ hr
  have hc : (Cond.count 1).before args s = true := hs _ (by decide +kernel)
  have harr : (Cond.arrayOf (.arg 0) .int).before args s = true := hs _ (by decide +kernel)
  have hle : (Cond.le (.length (.arg 0)) (.int 2050)).before args s = true := hs _ (by decide +kernel)
  have hlen : (Cond.isInt (.length (.arg 0))).before args s = true := hq _ (by decide +kernel)
  have hall : (Cond.all (.arg 0) (.isInt (.elem (.arg 0) (.index 0)))).before args s = true := hq _ (by decide +kernel)
  obtain ⟨b, xs, hb, hx⟩ := State.ints_of_pre rfl harr hlen hall
  have hsm : xs.length < 2 ^ 31 := hx.choose_spec.2.2.2
  have hev : (Term.length (.arg 0)).eval args s none [] s = some (.int xs.length.toInt32) := hx.length_eval hb
  have hv := Cond.le_ints hev (show (Term.int 2050).eval args s none [] s = some (.int 2050) from rfl)
  have hd : xs.length.toInt32 ≤ 2050 := by
    simpa [Cond.before, Cond.holds, hv] using hle
  have hN : xs.length ≤ 2050 := (Int32.ofNat_le_ofNat hsm (by decide)).mp (show Int32.ofNat xs.length ≤ Int32.ofNat 2050 from hd)
  exact ⟨b, xs, Cond.one_arg hc (show args[0]? = some (.ref b) from hb), hx, hN, h⟩
theorem lw_comes (l : Launch) : Comes l x (Jvm.Cond.code x code maxLocals ret :: tables_1) room_1 (fun tb e args s => Calls_1 tb e args s ∧ rest_1 tb e args s ∧ Pre_1 tb e args s)
    (fun _ _ args s o t => lw_Q args s o t) := by
  intro p e ha hc hk s m args below hf hfit hheap happ hpre
  obtain ⟨b, xs, hP⟩ := lw_pre_spec hpre.2.2 hpre.2.1
  obtain ⟨k, o, h1, h2, h3, hQ⟩ := lw_walk l b xs p e ha hc hk s m args below hf ((Spec.applies_iff_loose hf).mp happ).1 hP trivial
  exact ⟨k, o, h1, h2, h3, hQ⟩
theorem lw_frame {s t : State} {o : Outcome} {args : Array Value} (h : Framed s o t [] 600000 7302250) :
    Framed s o t (fieldLocs frame_1_writes args s ++ arrayLocs frame_1_arrays args s ++ staticLocs frame_1_statics s) 600000 7302250 := h
theorem lw_limb (L : Cond) (hL : ∀ (args : Array Value) (s t : State), L.after args s (.returned (some (.int 1))) t = true) :
    ArmFor flags0 classFile x code maxLocals ret World_1 tables_1 room_1 Calls_1 rest_1 Pre_1
      (fun tb e a s o t => postC L tb e a s o t ∧ Framed s o t (fieldLocs frame_1_writes a s ++ arrayLocs frame_1_arrays a s ++ staticLocs frame_1_statics s) 600000 7302250) := by
  intro l _ _ _ p e ha hc hk s m args below hf hfit hheap happ hpre
  obtain ⟨k, o, h1, h2, h3, rfl, hF⟩ := lw_comes l p e ha hc hk s m args below hf hfit hheap happ hpre
  exact ⟨k, _, h1, h2, h3, hL args s _, lw_frame hF⟩
theorem i_vc : Claimed_1_1 ∧ Claimed_1_2 := ⟨lw_limb limb_1_1 (fun args s t => by simp [limb_1_1, Cond.after, Cond.holds, Cond.value]), lw_limb limb_1_2 (fun args s t => Cond.after_iff.mpr (by
  first | (rw [show limb_1_2 = Cond.eq .result (.int 1) from rfl, Cond.eq_ints (x := 1) (y := 1) rfl rfl]; simp; done) | (simp [limb_1_2, Cond.value, Term.eval]; done)))⟩
end
