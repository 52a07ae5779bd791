section
-- ===== PART A: goes FIRST, ahead of the names: the tables' words, and 'selects' of the private methods out of them =====
/-- a private method of a class that the tables say can be made, by its rows of tables_1 -/
def lw_okq (q : MethodName × Nat) : Prop := (q.1.cls ≠ "java/lang/invoke/MethodHandle" ∧ q.1.cls ≠ "java/lang/invoke/VarHandle") ∧ Cond.instantiable q.1.cls q.2 ∈ tables_1 ∧ Cond.privateMethod q.1 ∈ tables_1 ∧ Cond.instanceMethod q.1 ∈ tables_1
theorem lw_p0 : lw_okq (⟨"BoreSpans", "pairUp", "()I"⟩, 8) := ⟨⟨by decide +kernel, by decide +kernel⟩, List.mem_of_getElem? (i := 13) (by decide +kernel), List.mem_of_getElem? (i := 270) (by decide +kernel), List.mem_of_getElem? (i := 271) (by decide +kernel)⟩
theorem lw_p1 : lw_okq (⟨"BoreSpans$Spans", "addShaft", "(III)V"⟩, 10) := ⟨⟨by decide +kernel, by decide +kernel⟩, List.mem_of_getElem? (i := 95) (by decide +kernel), List.mem_of_getElem? (i := 296) (by decide +kernel), List.mem_of_getElem? (i := 297) (by decide +kernel)⟩
theorem lw_p2 : lw_okq (⟨"BoreSpans$Spans", "closesAfter", "(II)Z"⟩, 10) := ⟨⟨by decide +kernel, by decide +kernel⟩, List.mem_of_getElem? (i := 95) (by decide +kernel), List.mem_of_getElem? (i := 300) (by decide +kernel), List.mem_of_getElem? (i := 301) (by decide +kernel)⟩
theorem lw_p3 : lw_okq (⟨"BoreSpans$Spans", "addBore", "(I)V"⟩, 10) := ⟨⟨by decide +kernel, by decide +kernel⟩, List.mem_of_getElem? (i := 95) (by decide +kernel), List.mem_of_getElem? (i := 304) (by decide +kernel), List.mem_of_getElem? (i := 305) (by decide +kernel)⟩
theorem lw_p4 : lw_okq (⟨"BoreSpans$Spans", "firstToClose", "(II)I"⟩, 10) := ⟨⟨by decide +kernel, by decide +kernel⟩, List.mem_of_getElem? (i := 95) (by decide +kernel), List.mem_of_getElem? (i := 312) (by decide +kernel), List.mem_of_getElem? (i := 313) (by decide +kernel)⟩
theorem lw_p5 : lw_okq (⟨"BoreSpans$Spans", "playOf", "(I)I"⟩, 10) := ⟨⟨by decide +kernel, by decide +kernel⟩, List.mem_of_getElem? (i := 95) (by decide +kernel), List.mem_of_getElem? (i := 320) (by decide +kernel), List.mem_of_getElem? (i := 321) (by decide +kernel)⟩
theorem lw_p6 : lw_okq (⟨"BoreSpans$Spans", "dropLatestBore", "()V"⟩, 10) := ⟨⟨by decide +kernel, by decide +kernel⟩, List.mem_of_getElem? (i := 95) (by decide +kernel), List.mem_of_getElem? (i := 341) (by decide +kernel), List.mem_of_getElem? (i := 342) (by decide +kernel)⟩
theorem lw_p7 : lw_okq (⟨"BoreSpans$Sight", "addRow", "(II)V"⟩, 6) := ⟨⟨by decide +kernel, by decide +kernel⟩, List.mem_of_getElem? (i := 193) (by decide +kernel), List.mem_of_getElem? (i := 349) (by decide +kernel), List.mem_of_getElem? (i := 350) (by decide +kernel)⟩
theorem lw_p8 : lw_okq (⟨"BoreSpans$Sight", "leaveOnly", "(II)V"⟩, 6) := ⟨⟨by decide +kernel, by decide +kernel⟩, List.mem_of_getElem? (i := 193) (by decide +kernel), List.mem_of_getElem? (i := 355) (by decide +kernel), List.mem_of_getElem? (i := 356) (by decide +kernel)⟩
theorem lw_p9 : lw_okq (⟨"BoreSpans$Sight", "cutOut", "(II)V"⟩, 6) := ⟨⟨by decide +kernel, by decide +kernel⟩, List.mem_of_getElem? (i := 193) (by decide +kernel), List.mem_of_getElem? (i := 365) (by decide +kernel), List.mem_of_getElem? (i := 366) (by decide +kernel)⟩
theorem lw_p10 : lw_okq (⟨"BoreSpans$Sight", "countWithin", "(II)I"⟩, 6) := ⟨⟨by decide +kernel, by decide +kernel⟩, List.mem_of_getElem? (i := 193) (by decide +kernel), List.mem_of_getElem? (i := 373) (by decide +kernel), List.mem_of_getElem? (i := 374) (by decide +kernel)⟩
theorem lw_p11 : lw_okq (⟨"BoreSpans", "putAsDeed", "(I)I"⟩, 8) := ⟨⟨by decide +kernel, by decide +kernel⟩, List.mem_of_getElem? (i := 13) (by decide +kernel), List.mem_of_getElem? (i := 442) (by decide +kernel), List.mem_of_getElem? (i := 443) (by decide +kernel)⟩
theorem lw_p12 : lw_okq (⟨"BoreSpans$Stock", "countInSort", "(I)V"⟩, 9) := ⟨⟨by decide +kernel, by decide +kernel⟩, List.mem_of_getElem? (i := 21) (by decide +kernel), List.mem_of_getElem? (i := 470) (by decide +kernel), List.mem_of_getElem? (i := 471) (by decide +kernel)⟩
theorem lw_p13 : lw_okq (⟨"BoreSpans", "draw", "(I)I"⟩, 8) := ⟨⟨by decide +kernel, by decide +kernel⟩, List.mem_of_getElem? (i := 13) (by decide +kernel), List.mem_of_getElem? (i := 507) (by decide +kernel), List.mem_of_getElem? (i := 508) (by decide +kernel)⟩
theorem lw_p14 : lw_okq (⟨"BoreSpans$Crowding", "seekFrom", "(LBoreSpans$Spans;I)V"⟩, 5) := ⟨⟨by decide +kernel, by decide +kernel⟩, List.mem_of_getElem? (i := 141) (by decide +kernel), List.mem_of_getElem? (i := 546) (by decide +kernel), List.mem_of_getElem? (i := 547) (by decide +kernel)⟩
theorem lw_p15 : lw_okq (⟨"BoreSpans$Crowding", "firstBoreFrom", "(LBoreSpans$Spans;I)I"⟩, 5) := ⟨⟨by decide +kernel, by decide +kernel⟩, List.mem_of_getElem? (i := 141) (by decide +kernel), List.mem_of_getElem? (i := 550) (by decide +kernel), List.mem_of_getElem? (i := 551) (by decide +kernel)⟩
def lw_privs_1 : List (MethodName × Nat) := [(⟨"BoreSpans", "pairUp", "()I"⟩, 8), (⟨"BoreSpans$Spans", "addShaft", "(III)V"⟩, 10), (⟨"BoreSpans$Spans", "closesAfter", "(II)Z"⟩, 10), (⟨"BoreSpans$Spans", "addBore", "(I)V"⟩, 10), (⟨"BoreSpans$Spans", "firstToClose", "(II)I"⟩, 10), (⟨"BoreSpans$Spans", "playOf", "(I)I"⟩, 10), (⟨"BoreSpans$Spans", "dropLatestBore", "()V"⟩, 10), (⟨"BoreSpans$Sight", "addRow", "(II)V"⟩, 6), (⟨"BoreSpans$Sight", "leaveOnly", "(II)V"⟩, 6), (⟨"BoreSpans$Sight", "cutOut", "(II)V"⟩, 6), (⟨"BoreSpans$Sight", "countWithin", "(II)I"⟩, 6), (⟨"BoreSpans", "putAsDeed", "(I)I"⟩, 8), (⟨"BoreSpans$Stock", "countInSort", "(I)V"⟩, 9), (⟨"BoreSpans", "draw", "(I)I"⟩, 8), (⟨"BoreSpans$Crowding", "seekFrom", "(LBoreSpans$Spans;I)V"⟩, 5), (⟨"BoreSpans$Crowding", "firstBoreFrom", "(LBoreSpans$Spans;I)I"⟩, 5)]
theorem lw_r1 : ∀ q ∈ lw_privs_1, lw_okq q := List.forall_mem_cons.mpr ⟨lw_p0, List.forall_mem_cons.mpr ⟨lw_p1, List.forall_mem_cons.mpr ⟨lw_p2, List.forall_mem_cons.mpr ⟨lw_p3, List.forall_mem_cons.mpr ⟨lw_p4, List.forall_mem_cons.mpr ⟨lw_p5, List.forall_mem_cons.mpr ⟨lw_p6, List.forall_mem_cons.mpr ⟨lw_p7, List.forall_mem_cons.mpr ⟨lw_p8, List.forall_mem_cons.mpr ⟨lw_p9, List.forall_mem_cons.mpr ⟨lw_p10, List.forall_mem_cons.mpr ⟨lw_p11, List.forall_mem_cons.mpr ⟨lw_p12, List.forall_mem_cons.mpr ⟨lw_p13, List.forall_mem_cons.mpr ⟨lw_p14, List.forall_mem_cons.mpr ⟨lw_p15, fun _ h => absurd h List.not_mem_nil⟩⟩⟩⟩⟩⟩⟩⟩⟩⟩⟩⟩⟩⟩⟩⟩
theorem lw_p16 : lw_okq (⟨"BoreSpans$Crowding", "weigh", "(IIII)V"⟩, 5) := ⟨⟨by decide +kernel, by decide +kernel⟩, List.mem_of_getElem? (i := 141) (by decide +kernel), List.mem_of_getElem? (i := 554) (by decide +kernel), List.mem_of_getElem? (i := 555) (by decide +kernel)⟩
theorem lw_p17 : lw_okq (⟨"BoreSpans$BoxTable", "add", "(IIZ)V"⟩, 5) := ⟨⟨by decide +kernel, by decide +kernel⟩, List.mem_of_getElem? (i := 168) (by decide +kernel), List.mem_of_getElem? (i := 568) (by decide +kernel), List.mem_of_getElem? (i := 569) (by decide +kernel)⟩
theorem lw_p18 : lw_okq (⟨"BoreSpans$BoxTable", "tryLastBox", "(II)V"⟩, 5) := ⟨⟨by decide +kernel, by decide +kernel⟩, List.mem_of_getElem? (i := 168) (by decide +kernel), List.mem_of_getElem? (i := 577) (by decide +kernel), List.mem_of_getElem? (i := 578) (by decide +kernel)⟩
theorem lw_p19 : lw_okq (⟨"BoreSpans$BoxTable", "addBox", "(IIII)V"⟩, 5) := ⟨⟨by decide +kernel, by decide +kernel⟩, List.mem_of_getElem? (i := 168) (by decide +kernel), List.mem_of_getElem? (i := 583) (by decide +kernel), List.mem_of_getElem? (i := 584) (by decide +kernel)⟩
theorem lw_p20 : lw_okq (⟨"BoreSpansModel", "now", "()I"⟩, 17) := ⟨⟨by decide +kernel, by decide +kernel⟩, List.mem_of_getElem? (i := 622) (by decide +kernel), List.mem_of_getElem? (i := 684) (by decide +kernel), List.mem_of_getElem? (i := 685) (by decide +kernel)⟩
theorem lw_p21 : lw_okq (⟨"BoreSpansModel", "pairs", "(II)I"⟩, 17) := ⟨⟨by decide +kernel, by decide +kernel⟩, List.mem_of_getElem? (i := 622) (by decide +kernel), List.mem_of_getElem? (i := 688) (by decide +kernel), List.mem_of_getElem? (i := 689) (by decide +kernel)⟩
theorem lw_p22 : lw_okq (⟨"BoreSpansModel", "closesFirst", "(II)I"⟩, 17) := ⟨⟨by decide +kernel, by decide +kernel⟩, List.mem_of_getElem? (i := 622) (by decide +kernel), List.mem_of_getElem? (i := 692) (by decide +kernel), List.mem_of_getElem? (i := 693) (by decide +kernel)⟩
theorem lw_p23 : lw_okq (⟨"BoreSpansModel", "begin", "(I)I"⟩, 17) := ⟨⟨by decide +kernel, by decide +kernel⟩, List.mem_of_getElem? (i := 622) (by decide +kernel), List.mem_of_getElem? (i := 696) (by decide +kernel), List.mem_of_getElem? (i := 697) (by decide +kernel)⟩
theorem lw_p24 : lw_okq (⟨"BoreSpansModel", "end", "(I)I"⟩, 17) := ⟨⟨by decide +kernel, by decide +kernel⟩, List.mem_of_getElem? (i := 622) (by decide +kernel), List.mem_of_getElem? (i := 700) (by decide +kernel), List.mem_of_getElem? (i := 701) (by decide +kernel)⟩
theorem lw_p25 : lw_okq (⟨"BoreSpansModel", "playOf", "(Z)I"⟩, 17) := ⟨⟨by decide +kernel, by decide +kernel⟩, List.mem_of_getElem? (i := 622) (by decide +kernel), List.mem_of_getElem? (i := 707) (by decide +kernel), List.mem_of_getElem? (i := 708) (by decide +kernel)⟩
theorem lw_p26 : lw_okq (⟨"BoreSpansModel", "ease", "()I"⟩, 17) := ⟨⟨by decide +kernel, by decide +kernel⟩, List.mem_of_getElem? (i := 622) (by decide +kernel), List.mem_of_getElem? (i := 711) (by decide +kernel), List.mem_of_getElem? (i := 712) (by decide +kernel)⟩
theorem lw_p27 : lw_okq (⟨"BoreSpansModel", "more", "()I"⟩, 17) := ⟨⟨by decide +kernel, by decide +kernel⟩, List.mem_of_getElem? (i := 622) (by decide +kernel), List.mem_of_getElem? (i := 715) (by decide +kernel), List.mem_of_getElem? (i := 716) (by decide +kernel)⟩
theorem lw_p28 : lw_okq (⟨"BoreSpansModel", "sizesTell", "(I)I"⟩, 17) := ⟨⟨by decide +kernel, by decide +kernel⟩, List.mem_of_getElem? (i := 622) (by decide +kernel), List.mem_of_getElem? (i := 723) (by decide +kernel), List.mem_of_getElem? (i := 724) (by decide +kernel)⟩
theorem lw_p29 : lw_okq (⟨"BoreSpansModel", "laySizes", "()V"⟩, 17) := ⟨⟨by decide +kernel, by decide +kernel⟩, List.mem_of_getElem? (i := 622) (by decide +kernel), List.mem_of_getElem? (i := 727) (by decide +kernel), List.mem_of_getElem? (i := 728) (by decide +kernel)⟩
theorem lw_p30 : lw_okq (⟨"BoreSpansModel", "isSo", "(I)Z"⟩, 17) := ⟨⟨by decide +kernel, by decide +kernel⟩, List.mem_of_getElem? (i := 622) (by decide +kernel), List.mem_of_getElem? (i := 731) (by decide +kernel), List.mem_of_getElem? (i := 732) (by decide +kernel)⟩
theorem lw_p31 : lw_okq (⟨"BoreSpansModel", "tryNext", "()I"⟩, 17) := ⟨⟨by decide +kernel, by decide +kernel⟩, List.mem_of_getElem? (i := 622) (by decide +kernel), List.mem_of_getElem? (i := 735) (by decide +kernel), List.mem_of_getElem? (i := 736) (by decide +kernel)⟩
def lw_privs_2 : List (MethodName × Nat) := [(⟨"BoreSpans$Crowding", "weigh", "(IIII)V"⟩, 5), (⟨"BoreSpans$BoxTable", "add", "(IIZ)V"⟩, 5), (⟨"BoreSpans$BoxTable", "tryLastBox", "(II)V"⟩, 5), (⟨"BoreSpans$BoxTable", "addBox", "(IIII)V"⟩, 5), (⟨"BoreSpansModel", "now", "()I"⟩, 17), (⟨"BoreSpansModel", "pairs", "(II)I"⟩, 17), (⟨"BoreSpansModel", "closesFirst", "(II)I"⟩, 17), (⟨"BoreSpansModel", "begin", "(I)I"⟩, 17), (⟨"BoreSpansModel", "end", "(I)I"⟩, 17), (⟨"BoreSpansModel", "playOf", "(Z)I"⟩, 17), (⟨"BoreSpansModel", "ease", "()I"⟩, 17), (⟨"BoreSpansModel", "more", "()I"⟩, 17), (⟨"BoreSpansModel", "sizesTell", "(I)I"⟩, 17), (⟨"BoreSpansModel", "laySizes", "()V"⟩, 17), (⟨"BoreSpansModel", "isSo", "(I)Z"⟩, 17), (⟨"BoreSpansModel", "tryNext", "()I"⟩, 17)]
theorem lw_r2 : ∀ q ∈ lw_privs_2, lw_okq q := List.forall_mem_cons.mpr ⟨lw_p16, List.forall_mem_cons.mpr ⟨lw_p17, List.forall_mem_cons.mpr ⟨lw_p18, List.forall_mem_cons.mpr ⟨lw_p19, List.forall_mem_cons.mpr ⟨lw_p20, List.forall_mem_cons.mpr ⟨lw_p21, List.forall_mem_cons.mpr ⟨lw_p22, List.forall_mem_cons.mpr ⟨lw_p23, List.forall_mem_cons.mpr ⟨lw_p24, List.forall_mem_cons.mpr ⟨lw_p25, List.forall_mem_cons.mpr ⟨lw_p26, List.forall_mem_cons.mpr ⟨lw_p27, List.forall_mem_cons.mpr ⟨lw_p28, List.forall_mem_cons.mpr ⟨lw_p29, List.forall_mem_cons.mpr ⟨lw_p30, List.forall_mem_cons.mpr ⟨lw_p31, fun _ h => absurd h List.not_mem_nil⟩⟩⟩⟩⟩⟩⟩⟩⟩⟩⟩⟩⟩⟩⟩⟩
theorem lw_p32 : lw_okq (⟨"BoreSpansModel", "fitting", "(I)I"⟩, 17) := ⟨⟨by decide +kernel, by decide +kernel⟩, List.mem_of_getElem? (i := 622) (by decide +kernel), List.mem_of_getElem? (i := 739) (by decide +kernel), List.mem_of_getElem? (i := 740) (by decide +kernel)⟩
theorem lw_p33 : lw_okq (⟨"BoreSpansModel", "isShaft", "(I)Z"⟩, 17) := ⟨⟨by decide +kernel, by decide +kernel⟩, List.mem_of_getElem? (i := 622) (by decide +kernel), List.mem_of_getElem? (i := 748) (by decide +kernel), List.mem_of_getElem? (i := 749) (by decide +kernel)⟩
theorem lw_p34 : lw_okq (⟨"BoreSpansModel", "shaftTells", "(II)I"⟩, 17) := ⟨⟨by decide +kernel, by decide +kernel⟩, List.mem_of_getElem? (i := 622) (by decide +kernel), List.mem_of_getElem? (i := 752) (by decide +kernel), List.mem_of_getElem? (i := 753) (by decide +kernel)⟩
theorem lw_p35 : lw_okq (⟨"BoreSpansModel", "sortOf", "(II)I"⟩, 17) := ⟨⟨by decide +kernel, by decide +kernel⟩, List.mem_of_getElem? (i := 622) (by decide +kernel), List.mem_of_getElem? (i := 756) (by decide +kernel), List.mem_of_getElem? (i := 757) (by decide +kernel)⟩
theorem lw_p36 : lw_okq (⟨"BoreSpansModel", "isBore", "(I)Z"⟩, 17) := ⟨⟨by decide +kernel, by decide +kernel⟩, List.mem_of_getElem? (i := 622) (by decide +kernel), List.mem_of_getElem? (i := 765) (by decide +kernel), List.mem_of_getElem? (i := 766) (by decide +kernel)⟩
theorem lw_p37 : lw_okq (⟨"BoreSpansModel", "boreTells", "(II)I"⟩, 17) := ⟨⟨by decide +kernel, by decide +kernel⟩, List.mem_of_getElem? (i := 622) (by decide +kernel), List.mem_of_getElem? (i := 769) (by decide +kernel), List.mem_of_getElem? (i := 770) (by decide +kernel)⟩
theorem lw_p38 : lw_okq (⟨"BoreSpansModel", "fitsMany", "(I)I"⟩, 17) := ⟨⟨by decide +kernel, by decide +kernel⟩, List.mem_of_getElem? (i := 622) (by decide +kernel), List.mem_of_getElem? (i := 773) (by decide +kernel), List.mem_of_getElem? (i := 774) (by decide +kernel)⟩
theorem lw_p39 : lw_okq (⟨"BoreSpansModel", "fits", "(II)Z"⟩, 17) := ⟨⟨by decide +kernel, by decide +kernel⟩, List.mem_of_getElem? (i := 622) (by decide +kernel), List.mem_of_getElem? (i := 777) (by decide +kernel), List.mem_of_getElem? (i := 778) (by decide +kernel)⟩
theorem lw_p40 : lw_okq (⟨"BoreSpansModel", "ofGrade", "(I)I"⟩, 17) := ⟨⟨by decide +kernel, by decide +kernel⟩, List.mem_of_getElem? (i := 622) (by decide +kernel), List.mem_of_getElem? (i := 789) (by decide +kernel), List.mem_of_getElem? (i := 790) (by decide +kernel)⟩
theorem lw_p41 : lw_okq (⟨"BoreSpansModel", "isRoomFor", "(II)Z"⟩, 17) := ⟨⟨by decide +kernel, by decide +kernel⟩, List.mem_of_getElem? (i := 622) (by decide +kernel), List.mem_of_getElem? (i := 806) (by decide +kernel), List.mem_of_getElem? (i := 807) (by decide +kernel)⟩
theorem lw_p42 : lw_okq (⟨"BoreSpansModel", "remember", "()V"⟩, 17) := ⟨⟨by decide +kernel, by decide +kernel⟩, List.mem_of_getElem? (i := 622) (by decide +kernel), List.mem_of_getElem? (i := 811) (by decide +kernel), List.mem_of_getElem? (i := 812) (by decide +kernel)⟩
theorem lw_p43 : lw_okq (⟨"BoreSpansModel", "copy", "(II)V"⟩, 17) := ⟨⟨by decide +kernel, by decide +kernel⟩, List.mem_of_getElem? (i := 622) (by decide +kernel), List.mem_of_getElem? (i := 815) (by decide +kernel), List.mem_of_getElem? (i := 816) (by decide +kernel)⟩
theorem lw_p44 : lw_okq (⟨"BoreSpansModel", "comes", "(II)V"⟩, 17) := ⟨⟨by decide +kernel, by decide +kernel⟩, List.mem_of_getElem? (i := 622) (by decide +kernel), List.mem_of_getElem? (i := 819) (by decide +kernel), List.mem_of_getElem? (i := 820) (by decide +kernel)⟩
theorem lw_p45 : lw_okq (⟨"BoreSpansModel", "comesSort", "(II)V"⟩, 17) := ⟨⟨by decide +kernel, by decide +kernel⟩, List.mem_of_getElem? (i := 622) (by decide +kernel), List.mem_of_getElem? (i := 823) (by decide +kernel), List.mem_of_getElem? (i := 824) (by decide +kernel)⟩
theorem lw_p46 : lw_okq (⟨"BoreSpansModel", "shaftGoes", "(I)V"⟩, 17) := ⟨⟨by decide +kernel, by decide +kernel⟩, List.mem_of_getElem? (i := 622) (by decide +kernel), List.mem_of_getElem? (i := 835) (by decide +kernel), List.mem_of_getElem? (i := 836) (by decide +kernel)⟩
theorem lw_p47 : lw_okq (⟨"BoreSpansModel", "boreGoes", "(I)V"⟩, 17) := ⟨⟨by decide +kernel, by decide +kernel⟩, List.mem_of_getElem? (i := 622) (by decide +kernel), List.mem_of_getElem? (i := 843) (by decide +kernel), List.mem_of_getElem? (i := 844) (by decide +kernel)⟩
def lw_privs_3 : List (MethodName × Nat) := [(⟨"BoreSpansModel", "fitting", "(I)I"⟩, 17), (⟨"BoreSpansModel", "isShaft", "(I)Z"⟩, 17), (⟨"BoreSpansModel", "shaftTells", "(II)I"⟩, 17), (⟨"BoreSpansModel", "sortOf", "(II)I"⟩, 17), (⟨"BoreSpansModel", "isBore", "(I)Z"⟩, 17), (⟨"BoreSpansModel", "boreTells", "(II)I"⟩, 17), (⟨"BoreSpansModel", "fitsMany", "(I)I"⟩, 17), (⟨"BoreSpansModel", "fits", "(II)Z"⟩, 17), (⟨"BoreSpansModel", "ofGrade", "(I)I"⟩, 17), (⟨"BoreSpansModel", "isRoomFor", "(II)Z"⟩, 17), (⟨"BoreSpansModel", "remember", "()V"⟩, 17), (⟨"BoreSpansModel", "copy", "(II)V"⟩, 17), (⟨"BoreSpansModel", "comes", "(II)V"⟩, 17), (⟨"BoreSpansModel", "comesSort", "(II)V"⟩, 17), (⟨"BoreSpansModel", "shaftGoes", "(I)V"⟩, 17), (⟨"BoreSpansModel", "boreGoes", "(I)V"⟩, 17)]
theorem lw_r3 : ∀ q ∈ lw_privs_3, lw_okq q := List.forall_mem_cons.mpr ⟨lw_p32, List.forall_mem_cons.mpr ⟨lw_p33, List.forall_mem_cons.mpr ⟨lw_p34, List.forall_mem_cons.mpr ⟨lw_p35, List.forall_mem_cons.mpr ⟨lw_p36, List.forall_mem_cons.mpr ⟨lw_p37, List.forall_mem_cons.mpr ⟨lw_p38, List.forall_mem_cons.mpr ⟨lw_p39, List.forall_mem_cons.mpr ⟨lw_p40, List.forall_mem_cons.mpr ⟨lw_p41, List.forall_mem_cons.mpr ⟨lw_p42, List.forall_mem_cons.mpr ⟨lw_p43, List.forall_mem_cons.mpr ⟨lw_p44, List.forall_mem_cons.mpr ⟨lw_p45, List.forall_mem_cons.mpr ⟨lw_p46, List.forall_mem_cons.mpr ⟨lw_p47, fun _ h => absurd h List.not_mem_nil⟩⟩⟩⟩⟩⟩⟩⟩⟩⟩⟩⟩⟩⟩⟩⟩
theorem lw_p48 : lw_okq (⟨"BoreSpansModel", "draw", "(I)I"⟩, 17) := ⟨⟨by decide +kernel, by decide +kernel⟩, List.mem_of_getElem? (i := 622) (by decide +kernel), List.mem_of_getElem? (i := 862) (by decide +kernel), List.mem_of_getElem? (i := 863) (by decide +kernel)⟩
theorem lw_p49 : lw_okq (⟨"BoreSpansModel", "shaftsWithin", "(II)I"⟩, 17) := ⟨⟨by decide +kernel, by decide +kernel⟩, List.mem_of_getElem? (i := 622) (by decide +kernel), List.mem_of_getElem? (i := 883) (by decide +kernel), List.mem_of_getElem? (i := 884) (by decide +kernel)⟩
theorem lw_p50 : lw_okq (⟨"BoreSpansModel", "boresWithin", "(II)I"⟩, 17) := ⟨⟨by decide +kernel, by decide +kernel⟩, List.mem_of_getElem? (i := 622) (by decide +kernel), List.mem_of_getElem? (i := 887) (by decide +kernel), List.mem_of_getElem? (i := 888) (by decide +kernel)⟩
theorem lw_p51 : lw_okq (⟨"BoreSpansModel", "lines", "()I"⟩, 17) := ⟨⟨by decide +kernel, by decide +kernel⟩, List.mem_of_getElem? (i := 622) (by decide +kernel), List.mem_of_getElem? (i := 896) (by decide +kernel), List.mem_of_getElem? (i := 897) (by decide +kernel)⟩
theorem lw_p52 : lw_okq (⟨"BoreSpansModel", "isAhead", "(II)Z"⟩, 17) := ⟨⟨by decide +kernel, by decide +kernel⟩, List.mem_of_getElem? (i := 622) (by decide +kernel), List.mem_of_getElem? (i := 900) (by decide +kernel), List.mem_of_getElem? (i := 901) (by decide +kernel)⟩
theorem lw_p53 : lw_okq (⟨"BoreSpansModel", "keyOf", "(I)I"⟩, 17) := ⟨⟨by decide +kernel, by decide +kernel⟩, List.mem_of_getElem? (i := 622) (by decide +kernel), List.mem_of_getElem? (i := 904) (by decide +kernel), List.mem_of_getElem? (i := 905) (by decide +kernel)⟩
theorem lw_p54 : lw_okq (⟨"BoreSpansModel", "goesWith", "(III)Z"⟩, 17) := ⟨⟨by decide +kernel, by decide +kernel⟩, List.mem_of_getElem? (i := 622) (by decide +kernel), List.mem_of_getElem? (i := 908) (by decide +kernel), List.mem_of_getElem? (i := 909) (by decide +kernel)⟩
def lw_privs_4 : List (MethodName × Nat) := [(⟨"BoreSpansModel", "draw", "(I)I"⟩, 17), (⟨"BoreSpansModel", "shaftsWithin", "(II)I"⟩, 17), (⟨"BoreSpansModel", "boresWithin", "(II)I"⟩, 17), (⟨"BoreSpansModel", "lines", "()I"⟩, 17), (⟨"BoreSpansModel", "isAhead", "(II)Z"⟩, 17), (⟨"BoreSpansModel", "keyOf", "(I)I"⟩, 17), (⟨"BoreSpansModel", "goesWith", "(III)Z"⟩, 17)]
theorem lw_r4 : ∀ q ∈ lw_privs_4, lw_okq q := List.forall_mem_cons.mpr ⟨lw_p48, List.forall_mem_cons.mpr ⟨lw_p49, List.forall_mem_cons.mpr ⟨lw_p50, List.forall_mem_cons.mpr ⟨lw_p51, List.forall_mem_cons.mpr ⟨lw_p52, List.forall_mem_cons.mpr ⟨lw_p53, List.forall_mem_cons.mpr ⟨lw_p54, fun _ h => absurd h List.not_mem_nil⟩⟩⟩⟩⟩⟩⟩
def lw_privs : List (MethodName × Nat) := lw_privs_1 ++ (lw_privs_2 ++ (lw_privs_3 ++ (lw_privs_4)))
def lw_tbl : List Cond := k2_sels lw_privs ++ tables_1
theorem lw_privs_ok : ∀ q ∈ lw_privs, lw_okq q := by
  show ∀ q ∈ lw_privs_1 ++ (lw_privs_2 ++ (lw_privs_3 ++ (lw_privs_4))), lw_okq q
  exact List.forall_mem_append.mpr ⟨lw_r1, List.forall_mem_append.mpr ⟨lw_r2, List.forall_mem_append.mpr ⟨lw_r3, lw_r4⟩⟩⟩
-- ===== end of PART A; then your names; then what follows =====
end
section
/-! ===== BEGIN words of one list among another's, by their places ===== -/
theorem goodIn_r {big : List Cond} (ws : List Cond) (ps : List Nat) (hp : ws = ps.filterMap (fun i => big[i]?)) (h : ws.all goodWord = true) : GoodIn big ws := by
  intro w hw
  have h1 := List.all_eq_true.mp h w hw
  rw [hp] at hw
  obtain ⟨i, -, hi⟩ := List.mem_filterMap.mp hw
  have hm : w ∈ big := by first | exact List.mem_of_getElem? hi | exact List.getElem?_mem hi
  exact ⟨hm, good_of_word h1⟩
theorem goodIn_app {big a b : List Cond} (ha : GoodIn big a) (hb : GoodIn big b) : GoodIn big (a ++ b) := fun w h => (List.mem_append.mp h).elim (ha w) (hb w)
theorem goodIn_ca {big a b : List Cond} {c : Cond} (ha : GoodIn big (c :: a)) (hb : GoodIn big b) : GoodIn big (c :: (a ++ b)) := fun w h => (List.mem_cons.mp h).elim (fun e => ha w (List.mem_cons.mpr (Or.inl e))) (fun h => (List.mem_append.mp h).elim (fun h => ha w (List.mem_cons.mpr (Or.inr h))) (hb w))
theorem goodIn_sub {big ws : List Cond} (hm : ∀ w ∈ ws, w ∈ big) (h : ws.all goodWord = true) : GoodIn big ws := fun w hw => ⟨hm w hw, good_of_word (List.all_eq_true.mp h w hw)⟩
/-! ===== END ===== -/


/-! ===== BEGIN printed: names, fields, word lists, decode rows ===== -/
def RX0 : String := "BoreSpans$BoxTable"
def TX0 : u_T := fun k => match k with
  | 0 => ("BoreSpans$BoxTable", "place", "[I", true)
  | 1 => ("BoreSpans$BoxTable", "close", "[I", true)
  | 2 => ("BoreSpans$BoxTable", "isBore", "[Z", true)
  | 3 => ("BoreSpans$BoxTable", "worth", "[[I", true)
  | _ => ("BoreSpans$BoxTable", "parts", "I", false)
def tyX0 : Nat → FieldType := fun k => match k with
  | 0 => .array .int
  | 1 => .array .int
  | 2 => .array .boolean
  | 3 => .array (.array .int)
  | _ => .int
abbrev wsX00 : List Cond := u_ws RX0 TX0 5
theorem nmX0 : ∀ a, a < 5 → ∀ b, b < 5 → a ≠ b → (TX0 a).2.1 ≠ (TX0 b).2.1 := by decide +kernel
theorem tyX0_ok : ∀ k, k < 5 → parseFieldDescriptor (TX0 k).2.2.1 = some (tyX0 k) := by decide +kernel
abbrev cX0_init : ByteArray := prog_2_method_1_code
def yX0_init : MethodName := ⟨RX0, "<init>", "()V"⟩
abbrev cX0_read : ByteArray := prog_2_method_2_code
def yX0_read : MethodName := ⟨RX0, "read", "(LBoreSpans$Stock;)V"⟩
abbrev cX0_add : ByteArray := prog_2_method_3_code
def yX0_add : MethodName := ⟨RX0, "add", "(IIZ)V"⟩
abbrev cX0_mostWorth : ByteArray := prog_2_method_4_code
def yX0_mostWorth : MethodName := ⟨RX0, "mostWorth", "(I)I"⟩
abbrev cX0_tryLastBox : ByteArray := prog_2_method_5_code
def yX0_tryLastBox : MethodName := ⟨RX0, "tryLastBox", "(II)V"⟩
abbrev cX0_addBox : ByteArray := prog_2_method_6_code
def yX0_addBox : MethodName := ⟨RX0, "addBox", "(IIII)V"⟩
def RX1 : String := "BoreSpans$Crowding"
def TX1 : u_T := fun k => match k with
  | 0 => ("BoreSpans$Crowding", "x", "I", false)
  | 1 => ("BoreSpans$Crowding", "y", "I", false)
  | 2 => ("BoreSpans$Crowding", "shafts", "I", false)
  | 3 => ("BoreSpans$Crowding", "bores", "I", false)
  | _ => ("BoreSpans$Crowding", "more", "I", false)
def tyX1 : Nat → FieldType := fun k => match k with
  | 0 => .int
  | 1 => .int
  | 2 => .int
  | 3 => .int
  | _ => .int
abbrev wsX10 : List Cond := u_ws RX1 TX1 5
theorem nmX1 : ∀ a, a < 5 → ∀ b, b < 5 → a ≠ b → (TX1 a).2.1 ≠ (TX1 b).2.1 := by decide +kernel
theorem tyX1_ok : ∀ k, k < 5 → parseFieldDescriptor (TX1 k).2.2.1 = some (tyX1 k) := by decide +kernel
abbrev cX1_init : ByteArray := prog_3_method_1_code
def yX1_init : MethodName := ⟨RX1, "<init>", "()V"⟩
abbrev cX1_seek : ByteArray := prog_3_method_2_code
def yX1_seek : MethodName := ⟨RX1, "seek", "(LBoreSpans$Spans;)V"⟩
abbrev cX1_seekFrom : ByteArray := prog_3_method_3_code
def yX1_seekFrom : MethodName := ⟨RX1, "seekFrom", "(LBoreSpans$Spans;I)V"⟩
abbrev cX1_firstBoreFrom : ByteArray := prog_3_method_4_code
def yX1_firstBoreFrom : MethodName := ⟨RX1, "firstBoreFrom", "(LBoreSpans$Spans;I)I"⟩
abbrev cX1_weigh : ByteArray := prog_3_method_5_code
def yX1_weigh : MethodName := ⟨RX1, "weigh", "(IIII)V"⟩
def RX2 : String := "BoreSpans$Image"
def TX2 : u_T := fun k => match k with
  | 0 => ("BoreSpans$Image", "stock", "LBoreSpans$Stock;", true)
  | 1 => ("BoreSpans$Image", "seed", "I", false)
  | _ => ("BoreSpans$Image", "kept", "Z", false)
def tyX2 : Nat → FieldType := fun k => match k with
  | 0 => .object "BoreSpans$Stock"
  | 1 => .int
  | _ => .boolean
abbrev wsX20 : List Cond := u_ws RX2 TX2 3
theorem nmX2 : ∀ a, a < 3 → ∀ b, b < 3 → a ≠ b → (TX2 a).2.1 ≠ (TX2 b).2.1 := by decide +kernel
theorem tyX2_ok : ∀ k, k < 3 → parseFieldDescriptor (TX2 k).2.2.1 = some (tyX2 k) := by decide +kernel
abbrev cX2_init : ByteArray := prog_4_method_1_code
def yX2_init : MethodName := ⟨RX2, "<init>", "()V"⟩
def RX3 : String := "BoreSpans$Past"
def TX3 : u_T := fun k => match k with
  | 0 => ("BoreSpans$Past", "ahead", "[LBoreSpans$Stock;", true)
  | 1 => ("BoreSpans$Past", "next", "I", false)
  | _ => ("BoreSpans$Past", "deeds", "I", false)
def tyX3 : Nat → FieldType := fun k => match k with
  | 0 => .array (.object "BoreSpans$Stock")
  | 1 => .int
  | _ => .int
abbrev wsX30 : List Cond := u_ws RX3 TX3 3
theorem nmX3 : ∀ a, a < 3 → ∀ b, b < 3 → a ≠ b → (TX3 a).2.1 ≠ (TX3 b).2.1 := by decide +kernel
theorem tyX3_ok : ∀ k, k < 3 → parseFieldDescriptor (TX3 k).2.2.1 = some (tyX3 k) := by decide +kernel
abbrev cX3_init : ByteArray := prog_5_method_1_code
def yX3_init : MethodName := ⟨RX3, "<init>", "()V"⟩
abbrev cX3_note : ByteArray := prog_5_method_2_code
def yX3_note : MethodName := ⟨RX3, "note", "(LBoreSpans$Stock;)V"⟩
abbrev cX3_giveBack : ByteArray := prog_5_method_3_code
def yX3_giveBack : MethodName := ⟨RX3, "giveBack", "(LBoreSpans$Stock;I)V"⟩
def RX4 : String := "BoreSpans$Sight"
def TX4 : u_T := fun k => match k with
  | 0 => ("BoreSpans$Sight", "kinds", "[I", true)
  | 1 => ("BoreSpans$Sight", "went", "[Z", true)
  | 2 => ("BoreSpans$Sight", "first", "[I", true)
  | 3 => ("BoreSpans$Sight", "last", "[I", true)
  | 4 => ("BoreSpans$Sight", "seen", "I", false)
  | _ => ("BoreSpans$Sight", "rows", "I", false)
def tyX4 : Nat → FieldType := fun k => match k with
  | 0 => .array .int
  | 1 => .array .boolean
  | 2 => .array .int
  | 3 => .array .int
  | 4 => .int
  | _ => .int
abbrev wsX40 : List Cond := u_ws RX4 TX4 6
theorem nmX4 : ∀ a, a < 6 → ∀ b, b < 6 → a ≠ b → (TX4 a).2.1 ≠ (TX4 b).2.1 := by decide +kernel
theorem tyX4_ok : ∀ k, k < 6 → parseFieldDescriptor (TX4 k).2.2.1 = some (tyX4 k) := by decide +kernel
abbrev cX4_init : ByteArray := prog_6_method_1_code
def yX4_init : MethodName := ⟨RX4, "<init>", "()V"⟩
abbrev cX4_note : ByteArray := prog_6_method_2_code
def yX4_note : MethodName := ⟨RX4, "note", "(IZ)I"⟩
abbrev cX4_narrow : ByteArray := prog_6_method_3_code
def yX4_narrow : MethodName := ⟨RX4, "narrow", "(LBoreSpans$Stock;)V"⟩
abbrev cX4_addRow : ByteArray := prog_6_method_4_code
def yX4_addRow : MethodName := ⟨RX4, "addRow", "(II)V"⟩
abbrev cX4_leaveOnly : ByteArray := prog_6_method_5_code
def yX4_leaveOnly : MethodName := ⟨RX4, "leaveOnly", "(II)V"⟩
abbrev cX4_cutOut : ByteArray := prog_6_method_6_code
def yX4_cutOut : MethodName := ⟨RX4, "cutOut", "(II)V"⟩
abbrev cX4_count : ByteArray := prog_6_method_7_code
def yX4_count : MethodName := ⟨RX4, "count", "()I"⟩
abbrev cX4_countWithin : ByteArray := prog_6_method_8_code
def yX4_countWithin : MethodName := ⟨RX4, "countWithin", "(II)I"⟩
abbrev cX4_leastSize : ByteArray := prog_6_method_9_code
def yX4_leastSize : MethodName := ⟨RX4, "leastSize", "()I"⟩
abbrev cX4_greatestSize : ByteArray := prog_6_method_10_code
def yX4_greatestSize : MethodName := ⟨RX4, "greatestSize", "()I"⟩
abbrev cX4_shaftToTry : ByteArray := prog_6_method_11_code
def yX4_shaftToTry : MethodName := ⟨RX4, "shaftToTry", "(LBoreSpans$Stock;)I"⟩
def RX5 : String := "BoreSpans$Spans"
def TX5 : u_T := fun k => match k with
  | 0 => ("BoreSpans$Spans", "shaftSize", "[I", true)
  | 1 => ("BoreSpans$Spans", "begin", "[I", true)
  | 2 => ("BoreSpans$Spans", "end", "[I", true)
  | 3 => ("BoreSpans$Spans", "closing", "[I", true)
  | 4 => ("BoreSpans$Spans", "boreOf", "[I", true)
  | 5 => ("BoreSpans$Spans", "boreSize", "[I", true)
  | 6 => ("BoreSpans$Spans", "rising", "[I", true)
  | 7 => ("BoreSpans$Spans", "shaftOf", "[I", true)
  | 8 => ("BoreSpans$Spans", "shafts", "I", false)
  | _ => ("BoreSpans$Spans", "bores", "I", false)
def tyX5 : Nat → FieldType := fun k => match k with
  | 0 => .array .int
  | 1 => .array .int
  | 2 => .array .int
  | 3 => .array .int
  | 4 => .array .int
  | 5 => .array .int
  | 6 => .array .int
  | 7 => .array .int
  | 8 => .int
  | _ => .int
abbrev wsX50 : List Cond := u_ws RX5 TX5 10
theorem nmX5 : ∀ a, a < 10 → ∀ b, b < 10 → a ≠ b → (TX5 a).2.1 ≠ (TX5 b).2.1 := by decide +kernel
theorem tyX5_ok : ∀ k, k < 10 → parseFieldDescriptor (TX5 k).2.2.1 = some (tyX5 k) := by decide +kernel
abbrev cX5_init : ByteArray := prog_7_method_1_code
def yX5_init : MethodName := ⟨RX5, "<init>", "()V"⟩
abbrev cX5_read : ByteArray := prog_7_method_2_code
def yX5_read : MethodName := ⟨RX5, "read", "(LBoreSpans$Stock;)V"⟩
abbrev cX5_addShaft : ByteArray := prog_7_method_3_code
def yX5_addShaft : MethodName := ⟨RX5, "addShaft", "(III)V"⟩
abbrev cX5_closesAfter : ByteArray := prog_7_method_4_code
def yX5_closesAfter : MethodName := ⟨RX5, "closesAfter", "(II)Z"⟩
abbrev cX5_addBore : ByteArray := prog_7_method_5_code
def yX5_addBore : MethodName := ⟨RX5, "addBore", "(I)V"⟩
abbrev cX5_dropLatestBore : ByteArray := prog_7_method_6_code
def yX5_dropLatestBore : MethodName := ⟨RX5, "dropLatestBore", "()V"⟩
abbrev cX5_pair : ByteArray := prog_7_method_7_code
def yX5_pair : MethodName := ⟨RX5, "pair", "(I)I"⟩
abbrev cX5_firstToClose : ByteArray := prog_7_method_8_code
def yX5_firstToClose : MethodName := ⟨RX5, "firstToClose", "(II)I"⟩
abbrev cX5_leastPlay : ByteArray := prog_7_method_9_code
def yX5_leastPlay : MethodName := ⟨RX5, "leastPlay", "()I"⟩
abbrev cX5_greatestPlay : ByteArray := prog_7_method_10_code
def yX5_greatestPlay : MethodName := ⟨RX5, "greatestPlay", "()I"⟩
abbrev cX5_playOf : ByteArray := prog_7_method_11_code
def yX5_playOf : MethodName := ⟨RX5, "playOf", "(I)I"⟩
abbrev cX5_ease : ByteArray := prog_7_method_12_code
def yX5_ease : MethodName := ⟨RX5, "ease", "()I"⟩
abbrev cX5_sizeOfOneMore : ByteArray := prog_7_method_13_code
def yX5_sizeOfOneMore : MethodName := ⟨RX5, "sizeOfOneMore", "()I"⟩
abbrev cX5_pairsWith : ByteArray := prog_7_method_14_code
def yX5_pairsWith : MethodName := ⟨RX5, "pairsWith", "(I)I"⟩
def RX6 : String := "BoreSpans$Stock"
def TX6 : u_T := fun k => match k with
  | 0 => ("BoreSpans$Stock", "shafts", "[I", true)
  | 1 => ("BoreSpans$Stock", "bores", "[I", true)
  | 2 => ("BoreSpans$Stock", "least", "[I", true)
  | 3 => ("BoreSpans$Stock", "most", "[I", true)
  | 4 => ("BoreSpans$Stock", "sorts", "[I", true)
  | 5 => ("BoreSpans$Stock", "ever", "[I", true)
  | 6 => ("BoreSpans$Stock", "shaftCount", "I", false)
  | 7 => ("BoreSpans$Stock", "boreCount", "I", false)
  | _ => ("BoreSpans$Stock", "sortCount", "I", false)
def tyX6 : Nat → FieldType := fun k => match k with
  | 0 => .array .int
  | 1 => .array .int
  | 2 => .array .int
  | 3 => .array .int
  | 4 => .array .int
  | 5 => .array .int
  | 6 => .int
  | 7 => .int
  | _ => .int
abbrev wsX60 : List Cond := u_ws RX6 TX6 9
theorem nmX6 : ∀ a, a < 9 → ∀ b, b < 9 → a ≠ b → (TX6 a).2.1 ≠ (TX6 b).2.1 := by decide +kernel
theorem tyX6_ok : ∀ k, k < 9 → parseFieldDescriptor (TX6 k).2.2.1 = some (tyX6 k) := by decide +kernel
abbrev cX6_init : ByteArray := prog_8_method_1_code
def yX6_init : MethodName := ⟨RX6, "<init>", "()V"⟩
abbrev cX6_copyFrom : ByteArray := prog_8_method_2_code
def yX6_copyFrom : MethodName := ⟨RX6, "copyFrom", "(LBoreSpans$Stock;)V"⟩
abbrev cX6_parts : ByteArray := prog_8_method_3_code
def yX6_parts : MethodName := ⟨RX6, "parts", "()I"⟩
abbrev cX6_sortOf : ByteArray := prog_8_method_4_code
def yX6_sortOf : MethodName := ⟨RX6, "sortOf", "(I)I"⟩
abbrev cX6_hasRoom : ByteArray := prog_8_method_5_code
def yX6_hasRoom : MethodName := ⟨RX6, "hasRoom", "(I)Z"⟩
abbrev cX6_put : ByteArray := prog_8_method_6_code
def yX6_put : MethodName := ⟨RX6, "put", "(I)I"⟩
abbrev cX6_countInSort : ByteArray := prog_8_method_7_code
def yX6_countInSort : MethodName := ⟨RX6, "countInSort", "(I)V"⟩
abbrev cX6_sortAnew : ByteArray := prog_8_method_8_code
def yX6_sortAnew : MethodName := ⟨RX6, "sortAnew", "()V"⟩
abbrev cX6_dropShaft : ByteArray := prog_8_method_9_code
def yX6_dropShaft : MethodName := ⟨RX6, "dropShaft", "(I)V"⟩
abbrev cX6_dropBore : ByteArray := prog_8_method_10_code
def yX6_dropBore : MethodName := ⟨RX6, "dropBore", "(I)V"⟩
abbrev cX6_empty : ByteArray := prog_8_method_11_code
def yX6_empty : MethodName := ⟨RX6, "empty", "()V"⟩
abbrev cX6_partsOfKind : ByteArray := prog_8_method_12_code
def yX6_partsOfKind : MethodName := ⟨RX6, "partsOfKind", "(I)I"⟩
abbrev cX6_shaftsOfGrade : ByteArray := prog_8_method_13_code
def yX6_shaftsOfGrade : MethodName := ⟨RX6, "shaftsOfGrade", "(I)I"⟩
abbrev cX6_shaftsFittedBy : ByteArray := prog_8_method_14_code
def yX6_shaftsFittedBy : MethodName := ⟨RX6, "shaftsFittedBy", "(I)I"⟩
abbrev cX6_begin : ByteArray := prog_8_method_15_code
def yX6_begin : MethodName := ⟨RX6, "begin", "(I)I"⟩
abbrev cX6_end : ByteArray := prog_8_method_16_code
def yX6_end : MethodName := ⟨RX6, "end", "(I)I"⟩
def RX7 : String := "BoreSpans"
def TX7 : u_T := fun k => match k with
  | 0 => ("BoreSpans", "stock", "LBoreSpans$Stock;", true)
  | 1 => ("BoreSpans", "past", "LBoreSpans$Past;", true)
  | 2 => ("BoreSpans", "spans", "LBoreSpans$Spans;", true)
  | 3 => ("BoreSpans", "crowding", "LBoreSpans$Crowding;", true)
  | 4 => ("BoreSpans", "boxTable", "LBoreSpans$BoxTable;", true)
  | 5 => ("BoreSpans", "sight", "LBoreSpans$Sight;", true)
  | 6 => ("BoreSpans", "images", "[LBoreSpans$Image;", true)
  | _ => ("BoreSpans", "theSeed", "I", false)
def tyX7 : Nat → FieldType := fun k => match k with
  | 0 => .object "BoreSpans$Stock"
  | 1 => .object "BoreSpans$Past"
  | 2 => .object "BoreSpans$Spans"
  | 3 => .object "BoreSpans$Crowding"
  | 4 => .object "BoreSpans$BoxTable"
  | 5 => .object "BoreSpans$Sight"
  | 6 => .array (.object "BoreSpans$Image")
  | _ => .int
abbrev wsX70 : List Cond := u_ws RX7 TX7 8
theorem nmX7 : ∀ a, a < 8 → ∀ b, b < 8 → a ≠ b → (TX7 a).2.1 ≠ (TX7 b).2.1 := by decide +kernel
theorem tyX7_ok : ∀ k, k < 8 → parseFieldDescriptor (TX7 k).2.2.1 = some (tyX7 k) := by decide +kernel
abbrev cX7_init : ByteArray := prog_1_method_1_code
def yX7_init : MethodName := ⟨RX7, "<init>", "()V"⟩
abbrev cX7_told : ByteArray := prog_1_method_2_code
def yX7_told : MethodName := ⟨RX7, "told", "(I)I"⟩
abbrev cX7_shaftAt : ByteArray := prog_1_method_3_code
def yX7_shaftAt : MethodName := ⟨RX7, "shaftAt", "(II)I"⟩
abbrev cX7_boreAt : ByteArray := prog_1_method_4_code
def yX7_boreAt : MethodName := ⟨RX7, "boreAt", "(II)I"⟩
abbrev cX7_gradeAt : ByteArray := prog_1_method_5_code
def yX7_gradeAt : MethodName := ⟨RX7, "gradeAt", "(II)I"⟩
abbrev cX7_sort : ByteArray := prog_1_method_6_code
def yX7_sort : MethodName := ⟨RX7, "sort", "(II)I"⟩
abbrev cX7_find : ByteArray := prog_1_method_7_code
def yX7_find : MethodName := ⟨RX7, "find", "(II)I"⟩
abbrev cX7_shaft : ByteArray := prog_1_method_8_code
def yX7_shaft : MethodName := ⟨RX7, "shaft", "(II)I"⟩
abbrev cX7_bore : ByteArray := prog_1_method_9_code
def yX7_bore : MethodName := ⟨RX7, "bore", "(I)I"⟩
abbrev cX7_takeShaft : ByteArray := prog_1_method_10_code
def yX7_takeShaft : MethodName := ⟨RX7, "takeShaft", "(I)I"⟩
abbrev cX7_takeBore : ByteArray := prog_1_method_11_code
def yX7_takeBore : MethodName := ⟨RX7, "takeBore", "(I)I"⟩
abbrev cX7_grade : ByteArray := prog_1_method_12_code
def yX7_grade : MethodName := ⟨RX7, "grade", "(III)I"⟩
abbrev cX7_putAway : ByteArray := prog_1_method_13_code
def yX7_putAway : MethodName := ⟨RX7, "putAway", "()I"⟩
abbrev cX7_batch : ByteArray := prog_1_method_14_code
def yX7_batch : MethodName := ⟨RX7, "batch", "(I)I"⟩
abbrev cX7_clear : ByteArray := prog_1_method_15_code
def yX7_clear : MethodName := ⟨RX7, "clear", "()I"⟩
abbrev cX7_undo : ByteArray := prog_1_method_16_code
def yX7_undo : MethodName := ⟨RX7, "undo", "(I)I"⟩
abbrev cX7_crowd : ByteArray := prog_1_method_17_code
def yX7_crowd : MethodName := ⟨RX7, "crowd", "(I)I"⟩
abbrev cX7_boxes : ByteArray := prog_1_method_18_code
def yX7_boxes : MethodName := ⟨RX7, "boxes", "(I)I"⟩
abbrev cX7_withBore : ByteArray := prog_1_method_19_code
def yX7_withBore : MethodName := ⟨RX7, "withBore", "(I)I"⟩
abbrev cX7_see : ByteArray := prog_1_method_20_code
def yX7_see : MethodName := ⟨RX7, "see", "(IIZ)I"⟩
abbrev cX7_forget : ByteArray := prog_1_method_21_code
def yX7_forget : MethodName := ⟨RX7, "forget", "()I"⟩
abbrev cX7_seed : ByteArray := prog_1_method_22_code
def yX7_seed : MethodName := ⟨RX7, "seed", "(I)I"⟩
abbrev cX7_keep : ByteArray := prog_1_method_23_code
def yX7_keep : MethodName := ⟨RX7, "keep", "(I)I"⟩
abbrev cX7_goBack : ByteArray := prog_1_method_24_code
def yX7_goBack : MethodName := ⟨RX7, "goBack", "(I)I"⟩
abbrev cX7_pairUp : ByteArray := prog_1_method_25_code
def yX7_pairUp : MethodName := ⟨RX7, "pairUp", "()I"⟩
abbrev cX7_putAsDeed : ByteArray := prog_1_method_26_code
def yX7_putAsDeed : MethodName := ⟨RX7, "putAsDeed", "(I)I"⟩
abbrev cX7_draw : ByteArray := prog_1_method_27_code
def yX7_draw : MethodName := ⟨RX7, "draw", "(I)I"⟩
abbrev cX7_isIn : ByteArray := prog_1_method_28_code
def yX7_isIn : MethodName := ⟨RX7, "isIn", "(II)Z"⟩
abbrev cX7_kindOf : ByteArray := prog_1_method_29_code
def yX7_kindOf : MethodName := ⟨RX7, "kindOf", "(II)I"⟩
abbrev cX7_gradeOf : ByteArray := prog_1_method_30_code
def yX7_gradeOf : MethodName := ⟨RX7, "gradeOf", "(I)I"⟩
abbrev cX7_sizeOf : ByteArray := prog_1_method_31_code
def yX7_sizeOf : MethodName := ⟨RX7, "sizeOf", "(I)I"⟩
def RX8 : String := "BoreSpansModel"
def TX8 : u_T := fun k => match k with
  | 0 => ("BoreSpansModel", "w", "[I", true)
  | 1 => ("BoreSpansModel", "isKept", "[Z", true)
  | 2 => ("BoreSpansModel", "keptSeed", "[I", true)
  | 3 => ("BoreSpansModel", "undos", "I", false)
  | 4 => ("BoreSpansModel", "seed", "I", false)
  | 5 => ("BoreSpansModel", "boreOf", "[I", true)
  | 6 => ("BoreSpansModel", "shaftOf", "[I", true)
  | 7 => ("BoreSpansModel", "sizes", "[I", true)
  | 8 => ("BoreSpansModel", "seen", "I", false)
  | 9 => ("BoreSpansModel", "seenGrade", "[I", true)
  | 10 => ("BoreSpansModel", "seenSize", "[I", true)
  | 11 => ("BoreSpansModel", "seenWent", "[Z", true)
  | 12 => ("BoreSpansModel", "sizeMany", "I", false)
  | 13 => ("BoreSpansModel", "sizeLeast", "I", false)
  | 14 => ("BoreSpansModel", "sizeMost", "I", false)
  | 15 => ("BoreSpansModel", "line", "[I", true)
  | _ => ("BoreSpansModel", "worth", "[I", true)
def tyX8 : Nat → FieldType := fun k => match k with
  | 0 => .array .int
  | 1 => .array .boolean
  | 2 => .array .int
  | 3 => .int
  | 4 => .int
  | 5 => .array .int
  | 6 => .array .int
  | 7 => .array .int
  | 8 => .int
  | 9 => .array .int
  | 10 => .array .int
  | 11 => .array .boolean
  | 12 => .int
  | 13 => .int
  | 14 => .int
  | 15 => .array .int
  | _ => .array .int
abbrev wsX80 : List Cond := u_ws RX8 TX8 17
theorem nmX8 : ∀ a, a < 17 → ∀ b, b < 17 → a ≠ b → (TX8 a).2.1 ≠ (TX8 b).2.1 := by decide +kernel
theorem tyX8_ok : ∀ k, k < 17 → parseFieldDescriptor (TX8 k).2.2.1 = some (tyX8 k) := by decide +kernel
abbrev cX8_init : ByteArray := prog_10_method_1_code
def yX8_init : MethodName := ⟨RX8, "<init>", "()V"⟩
abbrev cX8_in : ByteArray := prog_10_method_3_code
def yX8_in : MethodName := ⟨RX8, "in", "(JJJ)Z"⟩
abbrev cX8_copy : ByteArray := prog_10_method_4_code
def yX8_copy : MethodName := ⟨RX8, "copy", "(II)V"⟩
abbrev cX8_isGrade : ByteArray := prog_10_method_5_code
def yX8_isGrade : MethodName := ⟨RX8, "isGrade", "(I)Z"⟩
abbrev cX8_isSize : ByteArray := prog_10_method_6_code
def yX8_isSize : MethodName := ⟨RX8, "isSize", "(I)Z"⟩
abbrev cX8_isShaft : ByteArray := prog_10_method_7_code
def yX8_isShaft : MethodName := ⟨RX8, "isShaft", "(I)Z"⟩
abbrev cX8_isBore : ByteArray := prog_10_method_8_code
def yX8_isBore : MethodName := ⟨RX8, "isBore", "(I)Z"⟩
abbrev cX8_begin : ByteArray := prog_10_method_9_code
def yX8_begin : MethodName := ⟨RX8, "begin", "(I)I"⟩
abbrev cX8_end : ByteArray := prog_10_method_10_code
def yX8_end : MethodName := ⟨RX8, "end", "(I)I"⟩
abbrev cX8_fits : ByteArray := prog_10_method_11_code
def yX8_fits : MethodName := ⟨RX8, "fits", "(II)Z"⟩
abbrev cX8_closesFirst : ByteArray := prog_10_method_12_code
def yX8_closesFirst : MethodName := ⟨RX8, "closesFirst", "(II)I"⟩
abbrev cX8_pairs : ByteArray := prog_10_method_13_code
def yX8_pairs : MethodName := ⟨RX8, "pairs", "(II)I"⟩
abbrev cX8_now : ByteArray := prog_10_method_14_code
def yX8_now : MethodName := ⟨RX8, "now", "()I"⟩
abbrev cX8_playOf : ByteArray := prog_10_method_15_code
def yX8_playOf : MethodName := ⟨RX8, "playOf", "(Z)I"⟩
abbrev cX8_ease : ByteArray := prog_10_method_16_code
def yX8_ease : MethodName := ⟨RX8, "ease", "()I"⟩
abbrev cX8_more : ByteArray := prog_10_method_17_code
def yX8_more : MethodName := ⟨RX8, "more", "()I"⟩
abbrev cX8_isSo : ByteArray := prog_10_method_18_code
def yX8_isSo : MethodName := ⟨RX8, "isSo", "(I)Z"⟩
abbrev cX8_laySizes : ByteArray := prog_10_method_19_code
def yX8_laySizes : MethodName := ⟨RX8, "laySizes", "()V"⟩
abbrev cX8_fitting : ByteArray := prog_10_method_20_code
def yX8_fitting : MethodName := ⟨RX8, "fitting", "(I)I"⟩
abbrev cX8_tryNext : ByteArray := prog_10_method_21_code
def yX8_tryNext : MethodName := ⟨RX8, "tryNext", "()I"⟩
abbrev cX8_sizesTell : ByteArray := prog_10_method_22_code
def yX8_sizesTell : MethodName := ⟨RX8, "sizesTell", "(I)I"⟩
abbrev cX8_told : ByteArray := prog_10_method_23_code
def yX8_told : MethodName := ⟨RX8, "told", "(I)I"⟩
abbrev cX8_sortOf : ByteArray := prog_10_method_24_code
def yX8_sortOf : MethodName := ⟨RX8, "sortOf", "(II)I"⟩
abbrev cX8_shaftTells : ByteArray := prog_10_method_25_code
def yX8_shaftTells : MethodName := ⟨RX8, "shaftTells", "(II)I"⟩
abbrev cX8_shaftAt : ByteArray := prog_10_method_26_code
def yX8_shaftAt : MethodName := ⟨RX8, "shaftAt", "(II)I"⟩
abbrev cX8_fitsMany : ByteArray := prog_10_method_27_code
def yX8_fitsMany : MethodName := ⟨RX8, "fitsMany", "(I)I"⟩
abbrev cX8_boreTells : ByteArray := prog_10_method_28_code
def yX8_boreTells : MethodName := ⟨RX8, "boreTells", "(II)I"⟩
abbrev cX8_boreAt : ByteArray := prog_10_method_29_code
def yX8_boreAt : MethodName := ⟨RX8, "boreAt", "(II)I"⟩
abbrev cX8_ofGrade : ByteArray := prog_10_method_30_code
def yX8_ofGrade : MethodName := ⟨RX8, "ofGrade", "(I)I"⟩
abbrev cX8_gradeAt : ByteArray := prog_10_method_31_code
def yX8_gradeAt : MethodName := ⟨RX8, "gradeAt", "(II)I"⟩
abbrev cX8_sort : ByteArray := prog_10_method_32_code
def yX8_sort : MethodName := ⟨RX8, "sort", "(II)I"⟩
abbrev cX8_find : ByteArray := prog_10_method_33_code
def yX8_find : MethodName := ⟨RX8, "find", "(II)I"⟩
abbrev cX8_remember : ByteArray := prog_10_method_34_code
def yX8_remember : MethodName := ⟨RX8, "remember", "()V"⟩
abbrev cX8_isRoomFor : ByteArray := prog_10_method_35_code
def yX8_isRoomFor : MethodName := ⟨RX8, "isRoomFor", "(II)Z"⟩
abbrev cX8_comesSort : ByteArray := prog_10_method_36_code
def yX8_comesSort : MethodName := ⟨RX8, "comesSort", "(II)V"⟩
abbrev cX8_comes : ByteArray := prog_10_method_37_code
def yX8_comes : MethodName := ⟨RX8, "comes", "(II)V"⟩
abbrev cX8_shaft : ByteArray := prog_10_method_38_code
def yX8_shaft : MethodName := ⟨RX8, "shaft", "(II)I"⟩
abbrev cX8_bore : ByteArray := prog_10_method_39_code
def yX8_bore : MethodName := ⟨RX8, "bore", "(I)I"⟩
abbrev cX8_shaftGoes : ByteArray := prog_10_method_40_code
def yX8_shaftGoes : MethodName := ⟨RX8, "shaftGoes", "(I)V"⟩
abbrev cX8_boreGoes : ByteArray := prog_10_method_41_code
def yX8_boreGoes : MethodName := ⟨RX8, "boreGoes", "(I)V"⟩
abbrev cX8_takeShaft : ByteArray := prog_10_method_42_code
def yX8_takeShaft : MethodName := ⟨RX8, "takeShaft", "(I)I"⟩
abbrev cX8_takeBore : ByteArray := prog_10_method_43_code
def yX8_takeBore : MethodName := ⟨RX8, "takeBore", "(I)I"⟩
abbrev cX8_grade : ByteArray := prog_10_method_44_code
def yX8_grade : MethodName := ⟨RX8, "grade", "(III)I"⟩
abbrev cX8_putAway : ByteArray := prog_10_method_45_code
def yX8_putAway : MethodName := ⟨RX8, "putAway", "()I"⟩
abbrev cX8_draw : ByteArray := prog_10_method_46_code
def yX8_draw : MethodName := ⟨RX8, "draw", "(I)I"⟩
abbrev cX8_batch : ByteArray := prog_10_method_47_code
def yX8_batch : MethodName := ⟨RX8, "batch", "(I)I"⟩
abbrev cX8_clear : ByteArray := prog_10_method_48_code
def yX8_clear : MethodName := ⟨RX8, "clear", "()I"⟩
abbrev cX8_undo : ByteArray := prog_10_method_49_code
def yX8_undo : MethodName := ⟨RX8, "undo", "(I)I"⟩
abbrev cX8_shaftsWithin : ByteArray := prog_10_method_50_code
def yX8_shaftsWithin : MethodName := ⟨RX8, "shaftsWithin", "(II)I"⟩
abbrev cX8_boresWithin : ByteArray := prog_10_method_51_code
def yX8_boresWithin : MethodName := ⟨RX8, "boresWithin", "(II)I"⟩
abbrev cX8_crowd : ByteArray := prog_10_method_52_code
def yX8_crowd : MethodName := ⟨RX8, "crowd", "(I)I"⟩
abbrev cX8_keyOf : ByteArray := prog_10_method_53_code
def yX8_keyOf : MethodName := ⟨RX8, "keyOf", "(I)I"⟩
abbrev cX8_isAhead : ByteArray := prog_10_method_54_code
def yX8_isAhead : MethodName := ⟨RX8, "isAhead", "(II)Z"⟩
abbrev cX8_lines : ByteArray := prog_10_method_55_code
def yX8_lines : MethodName := ⟨RX8, "lines", "()I"⟩
abbrev cX8_goesWith : ByteArray := prog_10_method_56_code
def yX8_goesWith : MethodName := ⟨RX8, "goesWith", "(III)Z"⟩
abbrev cX8_boxes : ByteArray := prog_10_method_57_code
def yX8_boxes : MethodName := ⟨RX8, "boxes", "(I)I"⟩
abbrev cX8_withBore : ByteArray := prog_10_method_58_code
def yX8_withBore : MethodName := ⟨RX8, "withBore", "(I)I"⟩
abbrev cX8_see : ByteArray := prog_10_method_59_code
def yX8_see : MethodName := ⟨RX8, "see", "(IIZ)I"⟩
abbrev cX8_forget : ByteArray := prog_10_method_60_code
def yX8_forget : MethodName := ⟨RX8, "forget", "()I"⟩
abbrev cX8_seed : ByteArray := prog_10_method_61_code
def yX8_seed : MethodName := ⟨RX8, "seed", "(I)I"⟩
abbrev cX8_keep : ByteArray := prog_10_method_62_code
def yX8_keep : MethodName := ⟨RX8, "keep", "(I)I"⟩
abbrev cX8_goBack : ByteArray := prog_10_method_63_code
def yX8_goBack : MethodName := ⟨RX8, "goBack", "(I)I"⟩
def RJ9 : String := "java/lang/Math"
def TJ9 : u_T := fun k => match k with
  | _ => ("", "", "", false)
def tyJ9 : Nat → FieldType := fun k => match k with
  | _ => .int
abbrev wsJ90 : List Cond := u_ws RJ9 TJ9 0
theorem nmJ9 : ∀ a, a < 0 → ∀ b, b < 0 → a ≠ b → (TJ9 a).2.1 ≠ (TJ9 b).2.1 := by decide +kernel
theorem tyJ9_ok : ∀ k, k < 0 → parseFieldDescriptor (TJ9 k).2.2.1 = some (tyJ9 k) := by decide +kernel
abbrev cJ9_floorMod_7cf53 : ByteArray := prog_11_method_50_code
def yJ9_floorMod_7cf53 : MethodName := ⟨RJ9, "floorMod", "(II)I"⟩
abbrev cJ9_max_7cf53 : ByteArray := prog_11_method_65_code
def yJ9_max_7cf53 : MethodName := ⟨RJ9, "max", "(II)I"⟩
abbrev cJ9_min_7cf53 : ByteArray := prog_11_method_69_code
def yJ9_min_7cf53 : MethodName := ⟨RJ9, "min", "(II)I"⟩
def RJ10 : String := "java/lang/System"
def TJ10 : u_T := fun k => match k with
  | _ => ("", "", "", false)
def tyJ10 : Nat → FieldType := fun k => match k with
  | _ => .int
abbrev wsJ100 : List Cond := u_ws RJ10 TJ10 0
theorem nmJ10 : ∀ a, a < 0 → ∀ b, b < 0 → a ≠ b → (TJ10 a).2.1 ≠ (TJ10 b).2.1 := by decide +kernel
theorem tyJ10_ok : ∀ k, k < 0 → parseFieldDescriptor (TJ10 k).2.2.1 = some (tyJ10 k) := by decide +kernel
def RL : String := "BoreSpansLaw"
abbrev cL_law : ByteArray := code
def yL_law : MethodName := ⟨RL, "law", "([I)Z"⟩
abbrev vwCl : List vw_C := [(RX0, TX0, 5), (RX1, TX1, 5), (RX2, TX2, 3), (RX3, TX3, 3), (RX4, TX4, 6), (RX5, TX5, 10), (RX6, TX6, 9), (RX7, TX7, 8), (RX8, TX8, 17)]
end
section
theorem dX0_init_0 : decode cX0_init 0 = .ok (.aload_n 0, 1) := by decide +kernel
theorem dX0_init_1 : decode cX0_init 1 = .ok (.invokespecial 3, 3) := by decide +kernel
theorem dX0_init_4 : decode cX0_init 4 = .ok (.aload_n 0, 1) := by decide +kernel
theorem dX0_init_5 : decode cX0_init 5 = .ok (.bipush 48, 2) := by decide +kernel
theorem dX0_init_7 : decode cX0_init 7 = .ok (.newarray .int, 2) := by decide +kernel
theorem dX0_init_9 : decode cX0_init 9 = .ok (.putfield 9, 3) := by decide +kernel
theorem dX0_init_12 : decode cX0_init 12 = .ok (.aload_n 0, 1) := by decide +kernel
theorem dX0_init_13 : decode cX0_init 13 = .ok (.bipush 48, 2) := by decide +kernel
theorem dX0_init_15 : decode cX0_init 15 = .ok (.newarray .int, 2) := by decide +kernel
theorem dX0_init_17 : decode cX0_init 17 = .ok (.putfield 15, 3) := by decide +kernel
theorem dX0_init_20 : decode cX0_init 20 = .ok (.aload_n 0, 1) := by decide +kernel
theorem dX0_init_21 : decode cX0_init 21 = .ok (.bipush 48, 2) := by decide +kernel
theorem dX0_init_23 : decode cX0_init 23 = .ok (.newarray .boolean, 2) := by decide +kernel
theorem dX0_init_25 : decode cX0_init 25 = .ok (.putfield 18, 3) := by decide +kernel
theorem dX0_init_28 : decode cX0_init 28 = .ok (.aload_n 0, 1) := by decide +kernel
theorem dX0_init_29 : decode cX0_init 29 = .ok (.bipush 10, 2) := by decide +kernel
theorem dX0_init_31 : decode cX0_init 31 = .ok (.bipush 49, 2) := by decide +kernel
theorem dX0_init_33 : decode cX0_init 33 = .ok (.multianewarray 22 2, 4) := by decide +kernel
theorem dX0_init_37 : decode cX0_init 37 = .ok (.putfield 24, 3) := by decide +kernel
theorem dX0_init_40 : decode cX0_init 40 = .ok (.aload_n 0, 1) := by decide +kernel
theorem dX0_init_41 : decode cX0_init 41 = .ok (.iconst 0, 1) := by decide +kernel
theorem dX0_init_42 : decode cX0_init 42 = .ok (.putfield 27, 3) := by decide +kernel
theorem dX0_init_45 : decode cX0_init 45 = .ok (.return_, 1) := by decide +kernel
theorem dX0_read_0 : decode cX0_read 0 = .ok (.aload_n 0, 1) := by decide +kernel
theorem dX0_read_1 : decode cX0_read 1 = .ok (.iconst 0, 1) := by decide +kernel
theorem dX0_read_2 : decode cX0_read 2 = .ok (.putfield 27, 3) := by decide +kernel
theorem dX0_read_5 : decode cX0_read 5 = .ok (.iconst 0, 1) := by decide +kernel
theorem dX0_read_6 : decode cX0_read 6 = .ok (.istore_n 2, 1) := by decide +kernel
theorem dX0_read_7 : decode cX0_read 7 = .ok (.iload_n 2, 1) := by decide +kernel
theorem dX0_read_8 : decode cX0_read 8 = .ok (.aload_n 1, 1) := by decide +kernel
theorem dX0_read_9 : decode cX0_read 9 = .ok (.getfield 31, 3) := by decide +kernel
theorem dX0_read_12 : decode cX0_read 12 = .ok (.if_icmp .ge 34, 3) := by decide +kernel
theorem dX0_read_15 : decode cX0_read 15 = .ok (.aload_n 0, 1) := by decide +kernel
theorem dX0_read_16 : decode cX0_read 16 = .ok (.aload_n 1, 1) := by decide +kernel
theorem dX0_read_17 : decode cX0_read 17 = .ok (.aload_n 1, 1) := by decide +kernel
theorem dX0_read_18 : decode cX0_read 18 = .ok (.getfield 36, 3) := by decide +kernel
theorem dX0_read_21 : decode cX0_read 21 = .ok (.iload_n 2, 1) := by decide +kernel
theorem dX0_read_22 : decode cX0_read 22 = .ok (.iaload, 1) := by decide +kernel
theorem dX0_read_23 : decode cX0_read 23 = .ok (.invokevirtual 39, 3) := by decide +kernel
theorem dX0_read_26 : decode cX0_read 26 = .ok (.aload_n 1, 1) := by decide +kernel
theorem dX0_read_27 : decode cX0_read 27 = .ok (.aload_n 1, 1) := by decide +kernel
theorem dX0_read_28 : decode cX0_read 28 = .ok (.getfield 36, 3) := by decide +kernel
theorem dX0_read_31 : decode cX0_read 31 = .ok (.iload_n 2, 1) := by decide +kernel
theorem dX0_read_32 : decode cX0_read 32 = .ok (.iaload, 1) := by decide +kernel
theorem dX0_read_33 : decode cX0_read 33 = .ok (.invokevirtual 43, 3) := by decide +kernel
theorem dX0_read_36 : decode cX0_read 36 = .ok (.iconst 0, 1) := by decide +kernel
theorem dX0_read_37 : decode cX0_read 37 = .ok (.invokevirtual 46, 3) := by decide +kernel
theorem dX0_read_40 : decode cX0_read 40 = .ok (.iinc 2 1, 3) := by decide +kernel
theorem dX0_read_43 : decode cX0_read 43 = .ok (.goto (-36), 3) := by decide +kernel
theorem dX0_read_46 : decode cX0_read 46 = .ok (.iconst 0, 1) := by decide +kernel
theorem dX0_read_47 : decode cX0_read 47 = .ok (.istore_n 2, 1) := by decide +kernel
theorem dX0_read_48 : decode cX0_read 48 = .ok (.iload_n 2, 1) := by decide +kernel
theorem dX0_read_49 : decode cX0_read 49 = .ok (.aload_n 1, 1) := by decide +kernel
theorem dX0_read_50 : decode cX0_read 50 = .ok (.getfield 50, 3) := by decide +kernel
theorem dX0_read_53 : decode cX0_read 53 = .ok (.if_icmp .ge 26, 3) := by decide +kernel
theorem dX0_read_56 : decode cX0_read 56 = .ok (.aload_n 1, 1) := by decide +kernel
theorem dX0_read_57 : decode cX0_read 57 = .ok (.getfield 53, 3) := by decide +kernel
theorem dX0_read_60 : decode cX0_read 60 = .ok (.iload_n 2, 1) := by decide +kernel
theorem dX0_read_61 : decode cX0_read 61 = .ok (.iaload, 1) := by decide +kernel
theorem dX0_read_62 : decode cX0_read 62 = .ok (.invokestatic 56, 3) := by decide +kernel
theorem dX0_read_65 : decode cX0_read 65 = .ok (.istore_n 3, 1) := by decide +kernel
theorem dX0_read_66 : decode cX0_read 66 = .ok (.aload_n 0, 1) := by decide +kernel
theorem dX0_read_67 : decode cX0_read 67 = .ok (.iload_n 3, 1) := by decide +kernel
theorem dX0_read_68 : decode cX0_read 68 = .ok (.iload_n 3, 1) := by decide +kernel
theorem dX0_read_69 : decode cX0_read 69 = .ok (.iconst 1, 1) := by decide +kernel
theorem dX0_read_70 : decode cX0_read 70 = .ok (.invokevirtual 46, 3) := by decide +kernel
theorem dX0_read_73 : decode cX0_read 73 = .ok (.iinc 2 1, 3) := by decide +kernel
theorem dX0_read_76 : decode cX0_read 76 = .ok (.goto (-28), 3) := by decide +kernel
theorem dX0_read_79 : decode cX0_read 79 = .ok (.return_, 1) := by decide +kernel
theorem dX0_add_0 : decode cX0_add 0 = .ok (.aload_n 0, 1) := by decide +kernel
theorem dX0_add_1 : decode cX0_add 1 = .ok (.getfield 27, 3) := by decide +kernel
theorem dX0_add_4 : decode cX0_add 4 = .ok (.bipush 48, 2) := by decide +kernel
theorem dX0_add_6 : decode cX0_add 6 = .ok (.if_icmp .lt 4, 3) := by decide +kernel
theorem dX0_add_9 : decode cX0_add 9 = .ok (.return_, 1) := by decide +kernel
theorem dX0_add_10 : decode cX0_add 10 = .ok (.aload_n 0, 1) := by decide +kernel
theorem dX0_add_11 : decode cX0_add 11 = .ok (.getfield 27, 3) := by decide +kernel
theorem dX0_add_14 : decode cX0_add 14 = .ok (.istore 4, 2) := by decide +kernel
theorem dX0_add_16 : decode cX0_add 16 = .ok (.iload 4, 2) := by decide +kernel
theorem dX0_add_18 : decode cX0_add 18 = .ok (.ifCond .le 70, 3) := by decide +kernel
theorem dX0_add_21 : decode cX0_add 21 = .ok (.aload_n 0, 1) := by decide +kernel
theorem dX0_add_22 : decode cX0_add 22 = .ok (.getfield 9, 3) := by decide +kernel
theorem dX0_add_25 : decode cX0_add 25 = .ok (.iload 4, 2) := by decide +kernel
theorem dX0_add_27 : decode cX0_add 27 = .ok (.iconst 1, 1) := by decide +kernel
theorem dX0_add_28 : decode cX0_add 28 = .ok (.isub, 1) := by decide +kernel
theorem dX0_add_29 : decode cX0_add 29 = .ok (.iaload, 1) := by decide +kernel
theorem dX0_add_30 : decode cX0_add 30 = .ok (.iload_n 1, 1) := by decide +kernel
theorem dX0_add_31 : decode cX0_add 31 = .ok (.if_icmp .le 57, 3) := by decide +kernel
theorem dX0_add_34 : decode cX0_add 34 = .ok (.aload_n 0, 1) := by decide +kernel
theorem dX0_add_35 : decode cX0_add 35 = .ok (.getfield 9, 3) := by decide +kernel
theorem dX0_add_38 : decode cX0_add 38 = .ok (.iload 4, 2) := by decide +kernel
theorem dX0_add_40 : decode cX0_add 40 = .ok (.aload_n 0, 1) := by decide +kernel
theorem dX0_add_41 : decode cX0_add 41 = .ok (.getfield 9, 3) := by decide +kernel
theorem dX0_add_44 : decode cX0_add 44 = .ok (.iload 4, 2) := by decide +kernel
theorem dX0_add_46 : decode cX0_add 46 = .ok (.iconst 1, 1) := by decide +kernel
theorem dX0_add_47 : decode cX0_add 47 = .ok (.isub, 1) := by decide +kernel
theorem dX0_add_48 : decode cX0_add 48 = .ok (.iaload, 1) := by decide +kernel
theorem dX0_add_49 : decode cX0_add 49 = .ok (.iastore, 1) := by decide +kernel
theorem dX0_add_50 : decode cX0_add 50 = .ok (.aload_n 0, 1) := by decide +kernel
theorem dX0_add_51 : decode cX0_add 51 = .ok (.getfield 15, 3) := by decide +kernel
theorem dX0_add_54 : decode cX0_add 54 = .ok (.iload 4, 2) := by decide +kernel
theorem dX0_add_56 : decode cX0_add 56 = .ok (.aload_n 0, 1) := by decide +kernel
theorem dX0_add_57 : decode cX0_add 57 = .ok (.getfield 15, 3) := by decide +kernel
theorem dX0_add_60 : decode cX0_add 60 = .ok (.iload 4, 2) := by decide +kernel
theorem dX0_add_62 : decode cX0_add 62 = .ok (.iconst 1, 1) := by decide +kernel
theorem dX0_add_63 : decode cX0_add 63 = .ok (.isub, 1) := by decide +kernel
theorem dX0_add_64 : decode cX0_add 64 = .ok (.iaload, 1) := by decide +kernel
theorem dX0_add_65 : decode cX0_add 65 = .ok (.iastore, 1) := by decide +kernel
theorem dX0_add_66 : decode cX0_add 66 = .ok (.aload_n 0, 1) := by decide +kernel
theorem dX0_add_67 : decode cX0_add 67 = .ok (.getfield 18, 3) := by decide +kernel
theorem dX0_add_70 : decode cX0_add 70 = .ok (.iload 4, 2) := by decide +kernel
theorem dX0_add_72 : decode cX0_add 72 = .ok (.aload_n 0, 1) := by decide +kernel
theorem dX0_add_73 : decode cX0_add 73 = .ok (.getfield 18, 3) := by decide +kernel
theorem dX0_add_76 : decode cX0_add 76 = .ok (.iload 4, 2) := by decide +kernel
theorem dX0_add_78 : decode cX0_add 78 = .ok (.iconst 1, 1) := by decide +kernel
theorem dX0_add_79 : decode cX0_add 79 = .ok (.isub, 1) := by decide +kernel
theorem dX0_add_80 : decode cX0_add 80 = .ok (.baload, 1) := by decide +kernel
theorem dX0_add_81 : decode cX0_add 81 = .ok (.bastore, 1) := by decide +kernel
theorem dX0_add_82 : decode cX0_add 82 = .ok (.iinc 4 (-1), 3) := by decide +kernel
theorem dX0_add_85 : decode cX0_add 85 = .ok (.goto (-69), 3) := by decide +kernel
theorem dX0_add_88 : decode cX0_add 88 = .ok (.aload_n 0, 1) := by decide +kernel
theorem dX0_add_89 : decode cX0_add 89 = .ok (.getfield 9, 3) := by decide +kernel
theorem dX0_add_92 : decode cX0_add 92 = .ok (.iload 4, 2) := by decide +kernel
theorem dX0_add_94 : decode cX0_add 94 = .ok (.iload_n 1, 1) := by decide +kernel
theorem dX0_add_95 : decode cX0_add 95 = .ok (.iastore, 1) := by decide +kernel
theorem dX0_add_96 : decode cX0_add 96 = .ok (.aload_n 0, 1) := by decide +kernel
theorem dX0_add_97 : decode cX0_add 97 = .ok (.getfield 15, 3) := by decide +kernel
theorem dX0_add_100 : decode cX0_add 100 = .ok (.iload 4, 2) := by decide +kernel
theorem dX0_add_102 : decode cX0_add 102 = .ok (.iload_n 2, 1) := by decide +kernel
theorem dX0_add_103 : decode cX0_add 103 = .ok (.iastore, 1) := by decide +kernel
theorem dX0_add_104 : decode cX0_add 104 = .ok (.aload_n 0, 1) := by decide +kernel
theorem dX0_add_105 : decode cX0_add 105 = .ok (.getfield 18, 3) := by decide +kernel
theorem dX0_add_108 : decode cX0_add 108 = .ok (.iload 4, 2) := by decide +kernel
theorem dX0_add_110 : decode cX0_add 110 = .ok (.iload_n 3, 1) := by decide +kernel
theorem dX0_add_111 : decode cX0_add 111 = .ok (.bastore, 1) := by decide +kernel
theorem dX0_add_112 : decode cX0_add 112 = .ok (.aload_n 0, 1) := by decide +kernel
theorem dX0_add_113 : decode cX0_add 113 = .ok (.dup, 1) := by decide +kernel
theorem dX0_add_114 : decode cX0_add 114 = .ok (.getfield 27, 3) := by decide +kernel
theorem dX0_add_117 : decode cX0_add 117 = .ok (.iconst 1, 1) := by decide +kernel
theorem dX0_add_118 : decode cX0_add 118 = .ok (.iadd, 1) := by decide +kernel
theorem dX0_add_119 : decode cX0_add 119 = .ok (.putfield 27, 3) := by decide +kernel
theorem dX0_add_122 : decode cX0_add 122 = .ok (.return_, 1) := by decide +kernel
theorem dX0_mostWorth_0 : decode cX0_mostWorth 0 = .ok (.iconst 1, 1) := by decide +kernel
theorem dX0_mostWorth_1 : decode cX0_mostWorth 1 = .ok (.istore_n 2, 1) := by decide +kernel
theorem dX0_mostWorth_2 : decode cX0_mostWorth 2 = .ok (.iload_n 2, 1) := by decide +kernel
theorem dX0_mostWorth_3 : decode cX0_mostWorth 3 = .ok (.aload_n 0, 1) := by decide +kernel
theorem dX0_mostWorth_4 : decode cX0_mostWorth 4 = .ok (.getfield 27, 3) := by decide +kernel
theorem dX0_mostWorth_7 : decode cX0_mostWorth 7 = .ok (.if_icmp .gt 46, 3) := by decide +kernel
theorem dX0_mostWorth_10 : decode cX0_mostWorth 10 = .ok (.iconst 1, 1) := by decide +kernel
theorem dX0_mostWorth_11 : decode cX0_mostWorth 11 = .ok (.istore_n 3, 1) := by decide +kernel
theorem dX0_mostWorth_12 : decode cX0_mostWorth 12 = .ok (.iload_n 3, 1) := by decide +kernel
theorem dX0_mostWorth_13 : decode cX0_mostWorth 13 = .ok (.iload_n 1, 1) := by decide +kernel
theorem dX0_mostWorth_14 : decode cX0_mostWorth 14 = .ok (.if_icmp .gt 27, 3) := by decide +kernel
theorem dX0_mostWorth_17 : decode cX0_mostWorth 17 = .ok (.aload_n 0, 1) := by decide +kernel
theorem dX0_mostWorth_18 : decode cX0_mostWorth 18 = .ok (.getfield 24, 3) := by decide +kernel
theorem dX0_mostWorth_21 : decode cX0_mostWorth 21 = .ok (.iload_n 3, 1) := by decide +kernel
theorem dX0_mostWorth_22 : decode cX0_mostWorth 22 = .ok (.aaload, 1) := by decide +kernel
theorem dX0_mostWorth_23 : decode cX0_mostWorth 23 = .ok (.iload_n 2, 1) := by decide +kernel
theorem dX0_mostWorth_24 : decode cX0_mostWorth 24 = .ok (.aload_n 0, 1) := by decide +kernel
theorem dX0_mostWorth_25 : decode cX0_mostWorth 25 = .ok (.getfield 24, 3) := by decide +kernel
theorem dX0_mostWorth_28 : decode cX0_mostWorth 28 = .ok (.iload_n 3, 1) := by decide +kernel
theorem dX0_mostWorth_29 : decode cX0_mostWorth 29 = .ok (.aaload, 1) := by decide +kernel
theorem dX0_mostWorth_30 : decode cX0_mostWorth 30 = .ok (.iload_n 2, 1) := by decide +kernel
theorem dX0_mostWorth_31 : decode cX0_mostWorth 31 = .ok (.iconst 1, 1) := by decide +kernel
theorem dX0_mostWorth_32 : decode cX0_mostWorth 32 = .ok (.isub, 1) := by decide +kernel
theorem dX0_mostWorth_33 : decode cX0_mostWorth 33 = .ok (.iaload, 1) := by decide +kernel
theorem dX0_mostWorth_34 : decode cX0_mostWorth 34 = .ok (.iastore, 1) := by decide +kernel
theorem dX0_mostWorth_35 : decode cX0_mostWorth 35 = .ok (.iinc 3 1, 3) := by decide +kernel
theorem dX0_mostWorth_38 : decode cX0_mostWorth 38 = .ok (.goto (-26), 3) := by decide +kernel
theorem dX0_mostWorth_41 : decode cX0_mostWorth 41 = .ok (.aload_n 0, 1) := by decide +kernel
theorem dX0_mostWorth_42 : decode cX0_mostWorth 42 = .ok (.iload_n 2, 1) := by decide +kernel
theorem dX0_mostWorth_43 : decode cX0_mostWorth 43 = .ok (.iload_n 1, 1) := by decide +kernel
theorem dX0_mostWorth_44 : decode cX0_mostWorth 44 = .ok (.invokevirtual 59, 3) := by decide +kernel
theorem dX0_mostWorth_47 : decode cX0_mostWorth 47 = .ok (.iinc 2 1, 3) := by decide +kernel
theorem dX0_mostWorth_50 : decode cX0_mostWorth 50 = .ok (.goto (-48), 3) := by decide +kernel
theorem dX0_mostWorth_53 : decode cX0_mostWorth 53 = .ok (.aload_n 0, 1) := by decide +kernel
theorem dX0_mostWorth_54 : decode cX0_mostWorth 54 = .ok (.getfield 24, 3) := by decide +kernel
theorem dX0_mostWorth_57 : decode cX0_mostWorth 57 = .ok (.iload_n 1, 1) := by decide +kernel
theorem dX0_mostWorth_58 : decode cX0_mostWorth 58 = .ok (.aaload, 1) := by decide +kernel
theorem dX0_mostWorth_59 : decode cX0_mostWorth 59 = .ok (.aload_n 0, 1) := by decide +kernel
theorem dX0_mostWorth_60 : decode cX0_mostWorth 60 = .ok (.getfield 27, 3) := by decide +kernel
theorem dX0_mostWorth_63 : decode cX0_mostWorth 63 = .ok (.iaload, 1) := by decide +kernel
theorem dX0_mostWorth_64 : decode cX0_mostWorth 64 = .ok (.ireturn, 1) := by decide +kernel
theorem dX0_tryLastBox_0 : decode cX0_tryLastBox 0 = .ok (.iconst 0, 1) := by decide +kernel
theorem dX0_tryLastBox_1 : decode cX0_tryLastBox 1 = .ok (.istore_n 3, 1) := by decide +kernel
theorem dX0_tryLastBox_2 : decode cX0_tryLastBox 2 = .ok (.iconst 0, 1) := by decide +kernel
theorem dX0_tryLastBox_3 : decode cX0_tryLastBox 3 = .ok (.istore 4, 2) := by decide +kernel
theorem dX0_tryLastBox_5 : decode cX0_tryLastBox 5 = .ok (.iconst (-1), 1) := by decide +kernel
theorem dX0_tryLastBox_6 : decode cX0_tryLastBox 6 = .ok (.istore 5, 2) := by decide +kernel
theorem dX0_tryLastBox_8 : decode cX0_tryLastBox 8 = .ok (.sipush 11000, 3) := by decide +kernel
theorem dX0_tryLastBox_11 : decode cX0_tryLastBox 11 = .ok (.istore 6, 2) := by decide +kernel
theorem dX0_tryLastBox_13 : decode cX0_tryLastBox 13 = .ok (.sipush 11000, 3) := by decide +kernel
theorem dX0_tryLastBox_16 : decode cX0_tryLastBox 16 = .ok (.istore 7, 2) := by decide +kernel
theorem dX0_tryLastBox_18 : decode cX0_tryLastBox 18 = .ok (.iconst (-1), 1) := by decide +kernel
theorem dX0_tryLastBox_19 : decode cX0_tryLastBox 19 = .ok (.istore 8, 2) := by decide +kernel
theorem dX0_tryLastBox_21 : decode cX0_tryLastBox 21 = .ok (.iload_n 1, 1) := by decide +kernel
theorem dX0_tryLastBox_22 : decode cX0_tryLastBox 22 = .ok (.iconst 1, 1) := by decide +kernel
theorem dX0_tryLastBox_23 : decode cX0_tryLastBox 23 = .ok (.isub, 1) := by decide +kernel
theorem dX0_tryLastBox_24 : decode cX0_tryLastBox 24 = .ok (.istore 9, 2) := by decide +kernel
theorem dX0_tryLastBox_26 : decode cX0_tryLastBox 26 = .ok (.iload 9, 2) := by decide +kernel
theorem dX0_tryLastBox_28 : decode cX0_tryLastBox 28 = .ok (.ifCond .lt 113, 3) := by decide +kernel
theorem dX0_tryLastBox_31 : decode cX0_tryLastBox 31 = .ok (.aload_n 0, 1) := by decide +kernel
theorem dX0_tryLastBox_32 : decode cX0_tryLastBox 32 = .ok (.getfield 18, 3) := by decide +kernel
theorem dX0_tryLastBox_35 : decode cX0_tryLastBox 35 = .ok (.iload 9, 2) := by decide +kernel
theorem dX0_tryLastBox_37 : decode cX0_tryLastBox 37 = .ok (.baload, 1) := by decide +kernel
theorem dX0_tryLastBox_38 : decode cX0_tryLastBox 38 = .ok (.ifCond .eq 37, 3) := by decide +kernel
theorem dX0_tryLastBox_41 : decode cX0_tryLastBox 41 = .ok (.iinc 4 1, 3) := by decide +kernel
theorem dX0_tryLastBox_44 : decode cX0_tryLastBox 44 = .ok (.iload 7, 2) := by decide +kernel
theorem dX0_tryLastBox_46 : decode cX0_tryLastBox 46 = .ok (.aload_n 0, 1) := by decide +kernel
theorem dX0_tryLastBox_47 : decode cX0_tryLastBox 47 = .ok (.getfield 9, 3) := by decide +kernel
theorem dX0_tryLastBox_50 : decode cX0_tryLastBox 50 = .ok (.iload 9, 2) := by decide +kernel
theorem dX0_tryLastBox_52 : decode cX0_tryLastBox 52 = .ok (.iaload, 1) := by decide +kernel
theorem dX0_tryLastBox_53 : decode cX0_tryLastBox 53 = .ok (.invokestatic 63, 3) := by decide +kernel
theorem dX0_tryLastBox_56 : decode cX0_tryLastBox 56 = .ok (.istore 7, 2) := by decide +kernel
theorem dX0_tryLastBox_58 : decode cX0_tryLastBox 58 = .ok (.iload 8, 2) := by decide +kernel
theorem dX0_tryLastBox_60 : decode cX0_tryLastBox 60 = .ok (.aload_n 0, 1) := by decide +kernel
theorem dX0_tryLastBox_61 : decode cX0_tryLastBox 61 = .ok (.getfield 9, 3) := by decide +kernel
theorem dX0_tryLastBox_64 : decode cX0_tryLastBox 64 = .ok (.iload 9, 2) := by decide +kernel
theorem dX0_tryLastBox_66 : decode cX0_tryLastBox 66 = .ok (.iaload, 1) := by decide +kernel
theorem dX0_tryLastBox_67 : decode cX0_tryLastBox 67 = .ok (.invokestatic 69, 3) := by decide +kernel
theorem dX0_tryLastBox_70 : decode cX0_tryLastBox 70 = .ok (.istore 8, 2) := by decide +kernel
theorem dX0_tryLastBox_72 : decode cX0_tryLastBox 72 = .ok (.goto 34, 3) := by decide +kernel
theorem dX0_tryLastBox_75 : decode cX0_tryLastBox 75 = .ok (.iinc 3 1, 3) := by decide +kernel
theorem dX0_tryLastBox_78 : decode cX0_tryLastBox 78 = .ok (.iload 5, 2) := by decide +kernel
theorem dX0_tryLastBox_80 : decode cX0_tryLastBox 80 = .ok (.aload_n 0, 1) := by decide +kernel
theorem dX0_tryLastBox_81 : decode cX0_tryLastBox 81 = .ok (.getfield 9, 3) := by decide +kernel
theorem dX0_tryLastBox_84 : decode cX0_tryLastBox 84 = .ok (.iload 9, 2) := by decide +kernel
theorem dX0_tryLastBox_86 : decode cX0_tryLastBox 86 = .ok (.iaload, 1) := by decide +kernel
theorem dX0_tryLastBox_87 : decode cX0_tryLastBox 87 = .ok (.invokestatic 69, 3) := by decide +kernel
theorem dX0_tryLastBox_90 : decode cX0_tryLastBox 90 = .ok (.istore 5, 2) := by decide +kernel
theorem dX0_tryLastBox_92 : decode cX0_tryLastBox 92 = .ok (.iload 6, 2) := by decide +kernel
theorem dX0_tryLastBox_94 : decode cX0_tryLastBox 94 = .ok (.aload_n 0, 1) := by decide +kernel
theorem dX0_tryLastBox_95 : decode cX0_tryLastBox 95 = .ok (.getfield 15, 3) := by decide +kernel
theorem dX0_tryLastBox_98 : decode cX0_tryLastBox 98 = .ok (.iload 9, 2) := by decide +kernel
theorem dX0_tryLastBox_100 : decode cX0_tryLastBox 100 = .ok (.iaload, 1) := by decide +kernel
theorem dX0_tryLastBox_101 : decode cX0_tryLastBox 101 = .ok (.invokestatic 63, 3) := by decide +kernel
theorem dX0_tryLastBox_104 : decode cX0_tryLastBox 104 = .ok (.istore 6, 2) := by decide +kernel
theorem dX0_tryLastBox_106 : decode cX0_tryLastBox 106 = .ok (.iload 5, 2) := by decide +kernel
theorem dX0_tryLastBox_108 : decode cX0_tryLastBox 108 = .ok (.iload 7, 2) := by decide +kernel
theorem dX0_tryLastBox_110 : decode cX0_tryLastBox 110 = .ok (.if_icmp .gt 10, 3) := by decide +kernel
theorem dX0_tryLastBox_113 : decode cX0_tryLastBox 113 = .ok (.iload 8, 2) := by decide +kernel
theorem dX0_tryLastBox_115 : decode cX0_tryLastBox 115 = .ok (.iload 6, 2) := by decide +kernel
theorem dX0_tryLastBox_117 : decode cX0_tryLastBox 117 = .ok (.if_icmp .le 4, 3) := by decide +kernel
theorem dX0_tryLastBox_120 : decode cX0_tryLastBox 120 = .ok (.return_, 1) := by decide +kernel
theorem dX0_tryLastBox_121 : decode cX0_tryLastBox 121 = .ok (.aload_n 0, 1) := by decide +kernel
theorem dX0_tryLastBox_122 : decode cX0_tryLastBox 122 = .ok (.iload 9, 2) := by decide +kernel
theorem dX0_tryLastBox_124 : decode cX0_tryLastBox 124 = .ok (.iload_n 1, 1) := by decide +kernel
theorem dX0_tryLastBox_125 : decode cX0_tryLastBox 125 = .ok (.iload_n 2, 1) := by decide +kernel
theorem dX0_tryLastBox_126 : decode cX0_tryLastBox 126 = .ok (.iload_n 3, 1) := by decide +kernel
theorem dX0_tryLastBox_127 : decode cX0_tryLastBox 127 = .ok (.iload 4, 2) := by decide +kernel
theorem dX0_tryLastBox_129 : decode cX0_tryLastBox 129 = .ok (.invokestatic 63, 3) := by decide +kernel
theorem dX0_tryLastBox_132 : decode cX0_tryLastBox 132 = .ok (.invokevirtual 72, 3) := by decide +kernel
theorem dX0_tryLastBox_135 : decode cX0_tryLastBox 135 = .ok (.iinc 9 (-1), 3) := by decide +kernel
theorem dX0_tryLastBox_138 : decode cX0_tryLastBox 138 = .ok (.goto (-112), 3) := by decide +kernel
theorem dX0_tryLastBox_141 : decode cX0_tryLastBox 141 = .ok (.return_, 1) := by decide +kernel
theorem dX0_addBox_0 : decode cX0_addBox 0 = .ok (.iconst 1, 1) := by decide +kernel
theorem dX0_addBox_1 : decode cX0_addBox 1 = .ok (.istore 5, 2) := by decide +kernel
theorem dX0_addBox_3 : decode cX0_addBox 3 = .ok (.iload 5, 2) := by decide +kernel
theorem dX0_addBox_5 : decode cX0_addBox 5 = .ok (.iload_n 3, 1) := by decide +kernel
theorem dX0_addBox_6 : decode cX0_addBox 6 = .ok (.if_icmp .gt 44, 3) := by decide +kernel
theorem dX0_addBox_9 : decode cX0_addBox 9 = .ok (.aload_n 0, 1) := by decide +kernel
theorem dX0_addBox_10 : decode cX0_addBox 10 = .ok (.getfield 24, 3) := by decide +kernel
theorem dX0_addBox_13 : decode cX0_addBox 13 = .ok (.iload 5, 2) := by decide +kernel
theorem dX0_addBox_15 : decode cX0_addBox 15 = .ok (.aaload, 1) := by decide +kernel
theorem dX0_addBox_16 : decode cX0_addBox 16 = .ok (.iload_n 2, 1) := by decide +kernel
theorem dX0_addBox_17 : decode cX0_addBox 17 = .ok (.aload_n 0, 1) := by decide +kernel
theorem dX0_addBox_18 : decode cX0_addBox 18 = .ok (.getfield 24, 3) := by decide +kernel
theorem dX0_addBox_21 : decode cX0_addBox 21 = .ok (.iload 5, 2) := by decide +kernel
theorem dX0_addBox_23 : decode cX0_addBox 23 = .ok (.aaload, 1) := by decide +kernel
theorem dX0_addBox_24 : decode cX0_addBox 24 = .ok (.iload_n 2, 1) := by decide +kernel
theorem dX0_addBox_25 : decode cX0_addBox 25 = .ok (.iaload, 1) := by decide +kernel
theorem dX0_addBox_26 : decode cX0_addBox 26 = .ok (.aload_n 0, 1) := by decide +kernel
theorem dX0_addBox_27 : decode cX0_addBox 27 = .ok (.getfield 24, 3) := by decide +kernel
theorem dX0_addBox_30 : decode cX0_addBox 30 = .ok (.iload 5, 2) := by decide +kernel
theorem dX0_addBox_32 : decode cX0_addBox 32 = .ok (.iconst 1, 1) := by decide +kernel
theorem dX0_addBox_33 : decode cX0_addBox 33 = .ok (.isub, 1) := by decide +kernel
theorem dX0_addBox_34 : decode cX0_addBox 34 = .ok (.aaload, 1) := by decide +kernel
theorem dX0_addBox_35 : decode cX0_addBox 35 = .ok (.iload_n 1, 1) := by decide +kernel
theorem dX0_addBox_36 : decode cX0_addBox 36 = .ok (.iaload, 1) := by decide +kernel
theorem dX0_addBox_37 : decode cX0_addBox 37 = .ok (.iload 4, 2) := by decide +kernel
theorem dX0_addBox_39 : decode cX0_addBox 39 = .ok (.iadd, 1) := by decide +kernel
theorem dX0_addBox_40 : decode cX0_addBox 40 = .ok (.invokestatic 69, 3) := by decide +kernel
theorem dX0_addBox_43 : decode cX0_addBox 43 = .ok (.iastore, 1) := by decide +kernel
theorem dX0_addBox_44 : decode cX0_addBox 44 = .ok (.iinc 5 1, 3) := by decide +kernel
theorem dX0_addBox_47 : decode cX0_addBox 47 = .ok (.goto (-44), 3) := by decide +kernel
theorem dX0_addBox_50 : decode cX0_addBox 50 = .ok (.return_, 1) := by decide +kernel
theorem dX1_init_0 : decode cX1_init 0 = .ok (.aload_n 0, 1) := by decide +kernel
theorem dX1_init_1 : decode cX1_init 1 = .ok (.invokespecial 1, 3) := by decide +kernel
theorem dX1_init_4 : decode cX1_init 4 = .ok (.aload_n 0, 1) := by decide +kernel
theorem dX1_init_5 : decode cX1_init 5 = .ok (.iconst 0, 1) := by decide +kernel
theorem dX1_init_6 : decode cX1_init 6 = .ok (.putfield 7, 3) := by decide +kernel
theorem dX1_init_9 : decode cX1_init 9 = .ok (.aload_n 0, 1) := by decide +kernel
theorem dX1_init_10 : decode cX1_init 10 = .ok (.iconst 0, 1) := by decide +kernel
theorem dX1_init_11 : decode cX1_init 11 = .ok (.putfield 13, 3) := by decide +kernel
theorem dX1_init_14 : decode cX1_init 14 = .ok (.aload_n 0, 1) := by decide +kernel
theorem dX1_init_15 : decode cX1_init 15 = .ok (.iconst 0, 1) := by decide +kernel
theorem dX1_init_16 : decode cX1_init 16 = .ok (.putfield 16, 3) := by decide +kernel
theorem dX1_init_19 : decode cX1_init 19 = .ok (.aload_n 0, 1) := by decide +kernel
theorem dX1_init_20 : decode cX1_init 20 = .ok (.iconst 0, 1) := by decide +kernel
theorem dX1_init_21 : decode cX1_init 21 = .ok (.putfield 19, 3) := by decide +kernel
theorem dX1_init_24 : decode cX1_init 24 = .ok (.aload_n 0, 1) := by decide +kernel
theorem dX1_init_25 : decode cX1_init 25 = .ok (.iconst 0, 1) := by decide +kernel
theorem dX1_init_26 : decode cX1_init 26 = .ok (.putfield 22, 3) := by decide +kernel
theorem dX1_init_29 : decode cX1_init 29 = .ok (.return_, 1) := by decide +kernel
theorem dX1_seek_0 : decode cX1_seek 0 = .ok (.aload_n 0, 1) := by decide +kernel
theorem dX1_seek_1 : decode cX1_seek 1 = .ok (.iconst 0, 1) := by decide +kernel
theorem dX1_seek_2 : decode cX1_seek 2 = .ok (.putfield 22, 3) := by decide +kernel
theorem dX1_seek_5 : decode cX1_seek 5 = .ok (.iconst 0, 1) := by decide +kernel
theorem dX1_seek_6 : decode cX1_seek 6 = .ok (.istore_n 2, 1) := by decide +kernel
theorem dX1_seek_7 : decode cX1_seek 7 = .ok (.iload_n 2, 1) := by decide +kernel
theorem dX1_seek_8 : decode cX1_seek 8 = .ok (.aload_n 1, 1) := by decide +kernel
theorem dX1_seek_9 : decode cX1_seek 9 = .ok (.getfield 25, 3) := by decide +kernel
theorem dX1_seek_12 : decode cX1_seek 12 = .ok (.if_icmp .ge 20, 3) := by decide +kernel
theorem dX1_seek_15 : decode cX1_seek 15 = .ok (.aload_n 0, 1) := by decide +kernel
theorem dX1_seek_16 : decode cX1_seek 16 = .ok (.aload_n 1, 1) := by decide +kernel
theorem dX1_seek_17 : decode cX1_seek 17 = .ok (.aload_n 1, 1) := by decide +kernel
theorem dX1_seek_18 : decode cX1_seek 18 = .ok (.getfield 28, 3) := by decide +kernel
theorem dX1_seek_21 : decode cX1_seek 21 = .ok (.iload_n 2, 1) := by decide +kernel
theorem dX1_seek_22 : decode cX1_seek 22 = .ok (.iaload, 1) := by decide +kernel
theorem dX1_seek_23 : decode cX1_seek 23 = .ok (.invokevirtual 32, 3) := by decide +kernel
theorem dX1_seek_26 : decode cX1_seek 26 = .ok (.iinc 2 1, 3) := by decide +kernel
theorem dX1_seek_29 : decode cX1_seek 29 = .ok (.goto (-22), 3) := by decide +kernel
theorem dX1_seek_32 : decode cX1_seek 32 = .ok (.return_, 1) := by decide +kernel
theorem dX1_seekFrom_0 : decode cX1_seekFrom 0 = .ok (.iconst 0, 1) := by decide +kernel
theorem dX1_seekFrom_1 : decode cX1_seekFrom 1 = .ok (.istore_n 3, 1) := by decide +kernel
theorem dX1_seekFrom_2 : decode cX1_seekFrom 2 = .ok (.aload_n 0, 1) := by decide +kernel
theorem dX1_seekFrom_3 : decode cX1_seekFrom 3 = .ok (.aload_n 1, 1) := by decide +kernel
theorem dX1_seekFrom_4 : decode cX1_seekFrom 4 = .ok (.iload_n 2, 1) := by decide +kernel
theorem dX1_seekFrom_5 : decode cX1_seekFrom 5 = .ok (.invokevirtual 36, 3) := by decide +kernel
theorem dX1_seekFrom_8 : decode cX1_seekFrom 8 = .ok (.istore 4, 2) := by decide +kernel
theorem dX1_seekFrom_10 : decode cX1_seekFrom 10 = .ok (.iload 4, 2) := by decide +kernel
theorem dX1_seekFrom_12 : decode cX1_seekFrom 12 = .ok (.istore 5, 2) := by decide +kernel
theorem dX1_seekFrom_14 : decode cX1_seekFrom 14 = .ok (.iconst 0, 1) := by decide +kernel
theorem dX1_seekFrom_15 : decode cX1_seekFrom 15 = .ok (.istore 6, 2) := by decide +kernel
theorem dX1_seekFrom_17 : decode cX1_seekFrom 17 = .ok (.iload 6, 2) := by decide +kernel
theorem dX1_seekFrom_19 : decode cX1_seekFrom 19 = .ok (.aload_n 1, 1) := by decide +kernel
theorem dX1_seekFrom_20 : decode cX1_seekFrom 20 = .ok (.getfield 25, 3) := by decide +kernel
theorem dX1_seekFrom_23 : decode cX1_seekFrom 23 = .ok (.if_icmp .ge 87, 3) := by decide +kernel
theorem dX1_seekFrom_26 : decode cX1_seekFrom 26 = .ok (.aload_n 1, 1) := by decide +kernel
theorem dX1_seekFrom_27 : decode cX1_seekFrom 27 = .ok (.getfield 40, 3) := by decide +kernel
theorem dX1_seekFrom_30 : decode cX1_seekFrom 30 = .ok (.iload 6, 2) := by decide +kernel
theorem dX1_seekFrom_32 : decode cX1_seekFrom 32 = .ok (.iaload, 1) := by decide +kernel
theorem dX1_seekFrom_33 : decode cX1_seekFrom 33 = .ok (.istore 7, 2) := by decide +kernel
theorem dX1_seekFrom_35 : decode cX1_seekFrom 35 = .ok (.iload 5, 2) := by decide +kernel
theorem dX1_seekFrom_37 : decode cX1_seekFrom 37 = .ok (.aload_n 1, 1) := by decide +kernel
theorem dX1_seekFrom_38 : decode cX1_seekFrom 38 = .ok (.getfield 43, 3) := by decide +kernel
theorem dX1_seekFrom_41 : decode cX1_seekFrom 41 = .ok (.if_icmp .ge 31, 3) := by decide +kernel
theorem dX1_seekFrom_44 : decode cX1_seekFrom 44 = .ok (.aload_n 1, 1) := by decide +kernel
theorem dX1_seekFrom_45 : decode cX1_seekFrom 45 = .ok (.getfield 44, 3) := by decide +kernel
theorem dX1_seekFrom_48 : decode cX1_seekFrom 48 = .ok (.aload_n 1, 1) := by decide +kernel
theorem dX1_seekFrom_49 : decode cX1_seekFrom 49 = .ok (.getfield 47, 3) := by decide +kernel
theorem dX1_seekFrom_52 : decode cX1_seekFrom 52 = .ok (.iload 5, 2) := by decide +kernel
theorem dX1_seekFrom_54 : decode cX1_seekFrom 54 = .ok (.iaload, 1) := by decide +kernel
theorem dX1_seekFrom_55 : decode cX1_seekFrom 55 = .ok (.iaload, 1) := by decide +kernel
theorem dX1_seekFrom_56 : decode cX1_seekFrom 56 = .ok (.aload_n 1, 1) := by decide +kernel
theorem dX1_seekFrom_57 : decode cX1_seekFrom 57 = .ok (.getfield 50, 3) := by decide +kernel
theorem dX1_seekFrom_60 : decode cX1_seekFrom 60 = .ok (.iload 7, 2) := by decide +kernel
theorem dX1_seekFrom_62 : decode cX1_seekFrom 62 = .ok (.iaload, 1) := by decide +kernel
theorem dX1_seekFrom_63 : decode cX1_seekFrom 63 = .ok (.if_icmp .gt 9, 3) := by decide +kernel
theorem dX1_seekFrom_66 : decode cX1_seekFrom 66 = .ok (.iinc 5 1, 3) := by decide +kernel
theorem dX1_seekFrom_69 : decode cX1_seekFrom 69 = .ok (.goto (-34), 3) := by decide +kernel
theorem dX1_seekFrom_72 : decode cX1_seekFrom 72 = .ok (.aload_n 1, 1) := by decide +kernel
theorem dX1_seekFrom_73 : decode cX1_seekFrom 73 = .ok (.getfield 28, 3) := by decide +kernel
theorem dX1_seekFrom_76 : decode cX1_seekFrom 76 = .ok (.iload 7, 2) := by decide +kernel
theorem dX1_seekFrom_78 : decode cX1_seekFrom 78 = .ok (.iaload, 1) := by decide +kernel
theorem dX1_seekFrom_79 : decode cX1_seekFrom 79 = .ok (.iload_n 2, 1) := by decide +kernel
theorem dX1_seekFrom_80 : decode cX1_seekFrom 80 = .ok (.if_icmp .lt 24, 3) := by decide +kernel
theorem dX1_seekFrom_83 : decode cX1_seekFrom 83 = .ok (.iinc 3 1, 3) := by decide +kernel
theorem dX1_seekFrom_86 : decode cX1_seekFrom 86 = .ok (.aload_n 0, 1) := by decide +kernel
theorem dX1_seekFrom_87 : decode cX1_seekFrom 87 = .ok (.iload_n 2, 1) := by decide +kernel
theorem dX1_seekFrom_88 : decode cX1_seekFrom 88 = .ok (.aload_n 1, 1) := by decide +kernel
theorem dX1_seekFrom_89 : decode cX1_seekFrom 89 = .ok (.getfield 50, 3) := by decide +kernel
theorem dX1_seekFrom_92 : decode cX1_seekFrom 92 = .ok (.iload 7, 2) := by decide +kernel
theorem dX1_seekFrom_94 : decode cX1_seekFrom 94 = .ok (.iaload, 1) := by decide +kernel
theorem dX1_seekFrom_95 : decode cX1_seekFrom 95 = .ok (.iload_n 3, 1) := by decide +kernel
theorem dX1_seekFrom_96 : decode cX1_seekFrom 96 = .ok (.iload 5, 2) := by decide +kernel
theorem dX1_seekFrom_98 : decode cX1_seekFrom 98 = .ok (.iload 4, 2) := by decide +kernel
theorem dX1_seekFrom_100 : decode cX1_seekFrom 100 = .ok (.isub, 1) := by decide +kernel
theorem dX1_seekFrom_101 : decode cX1_seekFrom 101 = .ok (.invokevirtual 53, 3) := by decide +kernel
theorem dX1_seekFrom_104 : decode cX1_seekFrom 104 = .ok (.iinc 6 1, 3) := by decide +kernel
theorem dX1_seekFrom_107 : decode cX1_seekFrom 107 = .ok (.goto (-90), 3) := by decide +kernel
theorem dX1_seekFrom_110 : decode cX1_seekFrom 110 = .ok (.return_, 1) := by decide +kernel
theorem dX1_firstBoreFrom_0 : decode cX1_firstBoreFrom 0 = .ok (.iconst 0, 1) := by decide +kernel
theorem dX1_firstBoreFrom_1 : decode cX1_firstBoreFrom 1 = .ok (.istore_n 3, 1) := by decide +kernel
theorem dX1_firstBoreFrom_2 : decode cX1_firstBoreFrom 2 = .ok (.iload_n 3, 1) := by decide +kernel
theorem dX1_firstBoreFrom_3 : decode cX1_firstBoreFrom 3 = .ok (.aload_n 1, 1) := by decide +kernel
theorem dX1_firstBoreFrom_4 : decode cX1_firstBoreFrom 4 = .ok (.getfield 43, 3) := by decide +kernel
theorem dX1_firstBoreFrom_7 : decode cX1_firstBoreFrom 7 = .ok (.if_icmp .ge 24, 3) := by decide +kernel
theorem dX1_firstBoreFrom_10 : decode cX1_firstBoreFrom 10 = .ok (.aload_n 1, 1) := by decide +kernel
theorem dX1_firstBoreFrom_11 : decode cX1_firstBoreFrom 11 = .ok (.getfield 44, 3) := by decide +kernel
theorem dX1_firstBoreFrom_14 : decode cX1_firstBoreFrom 14 = .ok (.aload_n 1, 1) := by decide +kernel
theorem dX1_firstBoreFrom_15 : decode cX1_firstBoreFrom 15 = .ok (.getfield 47, 3) := by decide +kernel
theorem dX1_firstBoreFrom_18 : decode cX1_firstBoreFrom 18 = .ok (.iload_n 3, 1) := by decide +kernel
theorem dX1_firstBoreFrom_19 : decode cX1_firstBoreFrom 19 = .ok (.iaload, 1) := by decide +kernel
theorem dX1_firstBoreFrom_20 : decode cX1_firstBoreFrom 20 = .ok (.iaload, 1) := by decide +kernel
theorem dX1_firstBoreFrom_21 : decode cX1_firstBoreFrom 21 = .ok (.iload_n 2, 1) := by decide +kernel
theorem dX1_firstBoreFrom_22 : decode cX1_firstBoreFrom 22 = .ok (.if_icmp .ge 9, 3) := by decide +kernel
theorem dX1_firstBoreFrom_25 : decode cX1_firstBoreFrom 25 = .ok (.iinc 3 1, 3) := by decide +kernel
theorem dX1_firstBoreFrom_28 : decode cX1_firstBoreFrom 28 = .ok (.goto (-26), 3) := by decide +kernel
theorem dX1_firstBoreFrom_31 : decode cX1_firstBoreFrom 31 = .ok (.iload_n 3, 1) := by decide +kernel
theorem dX1_firstBoreFrom_32 : decode cX1_firstBoreFrom 32 = .ok (.ireturn, 1) := by decide +kernel
theorem dX1_weigh_0 : decode cX1_weigh 0 = .ok (.iload_n 3, 1) := by decide +kernel
theorem dX1_weigh_1 : decode cX1_weigh 1 = .ok (.iload 4, 2) := by decide +kernel
theorem dX1_weigh_3 : decode cX1_weigh 3 = .ok (.isub, 1) := by decide +kernel
theorem dX1_weigh_4 : decode cX1_weigh 4 = .ok (.istore 5, 2) := by decide +kernel
theorem dX1_weigh_6 : decode cX1_weigh 6 = .ok (.iload 5, 2) := by decide +kernel
theorem dX1_weigh_8 : decode cX1_weigh 8 = .ok (.aload_n 0, 1) := by decide +kernel
theorem dX1_weigh_9 : decode cX1_weigh 9 = .ok (.getfield 22, 3) := by decide +kernel
theorem dX1_weigh_12 : decode cX1_weigh 12 = .ok (.if_icmp .gt 27, 3) := by decide +kernel
theorem dX1_weigh_15 : decode cX1_weigh 15 = .ok (.iload 5, 2) := by decide +kernel
theorem dX1_weigh_17 : decode cX1_weigh 17 = .ok (.aload_n 0, 1) := by decide +kernel
theorem dX1_weigh_18 : decode cX1_weigh 18 = .ok (.getfield 22, 3) := by decide +kernel
theorem dX1_weigh_21 : decode cX1_weigh 21 = .ok (.if_icmp .ne 45, 3) := by decide +kernel
theorem dX1_weigh_24 : decode cX1_weigh 24 = .ok (.aload_n 0, 1) := by decide +kernel
theorem dX1_weigh_25 : decode cX1_weigh 25 = .ok (.getfield 22, 3) := by decide +kernel
theorem dX1_weigh_28 : decode cX1_weigh 28 = .ok (.ifCond .le 38, 3) := by decide +kernel
theorem dX1_weigh_31 : decode cX1_weigh 31 = .ok (.iload_n 1, 1) := by decide +kernel
theorem dX1_weigh_32 : decode cX1_weigh 32 = .ok (.aload_n 0, 1) := by decide +kernel
theorem dX1_weigh_33 : decode cX1_weigh 33 = .ok (.getfield 7, 3) := by decide +kernel
theorem dX1_weigh_36 : decode cX1_weigh 36 = .ok (.if_icmp .ge 30, 3) := by decide +kernel
theorem dX1_weigh_39 : decode cX1_weigh 39 = .ok (.aload_n 0, 1) := by decide +kernel
theorem dX1_weigh_40 : decode cX1_weigh 40 = .ok (.iload_n 1, 1) := by decide +kernel
theorem dX1_weigh_41 : decode cX1_weigh 41 = .ok (.putfield 7, 3) := by decide +kernel
theorem dX1_weigh_44 : decode cX1_weigh 44 = .ok (.aload_n 0, 1) := by decide +kernel
theorem dX1_weigh_45 : decode cX1_weigh 45 = .ok (.iload_n 2, 1) := by decide +kernel
theorem dX1_weigh_46 : decode cX1_weigh 46 = .ok (.putfield 13, 3) := by decide +kernel
theorem dX1_weigh_49 : decode cX1_weigh 49 = .ok (.aload_n 0, 1) := by decide +kernel
theorem dX1_weigh_50 : decode cX1_weigh 50 = .ok (.iload_n 3, 1) := by decide +kernel
theorem dX1_weigh_51 : decode cX1_weigh 51 = .ok (.putfield 16, 3) := by decide +kernel
theorem dX1_weigh_54 : decode cX1_weigh 54 = .ok (.aload_n 0, 1) := by decide +kernel
theorem dX1_weigh_55 : decode cX1_weigh 55 = .ok (.iload 4, 2) := by decide +kernel
theorem dX1_weigh_57 : decode cX1_weigh 57 = .ok (.putfield 19, 3) := by decide +kernel
theorem dX1_weigh_60 : decode cX1_weigh 60 = .ok (.aload_n 0, 1) := by decide +kernel
theorem dX1_weigh_61 : decode cX1_weigh 61 = .ok (.iload 5, 2) := by decide +kernel
theorem dX1_weigh_63 : decode cX1_weigh 63 = .ok (.putfield 22, 3) := by decide +kernel
theorem dX1_weigh_66 : decode cX1_weigh 66 = .ok (.return_, 1) := by decide +kernel
theorem dX2_init_0 : decode cX2_init 0 = .ok (.aload_n 0, 1) := by decide +kernel
theorem dX2_init_1 : decode cX2_init 1 = .ok (.invokespecial 1, 3) := by decide +kernel
theorem dX2_init_4 : decode cX2_init 4 = .ok (.aload_n 0, 1) := by decide +kernel
theorem dX2_init_5 : decode cX2_init 5 = .ok (.new 7, 3) := by decide +kernel
theorem dX2_init_8 : decode cX2_init 8 = .ok (.dup, 1) := by decide +kernel
theorem dX2_init_9 : decode cX2_init 9 = .ok (.invokespecial 9, 3) := by decide +kernel
theorem dX2_init_12 : decode cX2_init 12 = .ok (.putfield 10, 3) := by decide +kernel
theorem dX2_init_15 : decode cX2_init 15 = .ok (.aload_n 0, 1) := by decide +kernel
theorem dX2_init_16 : decode cX2_init 16 = .ok (.iconst 0, 1) := by decide +kernel
theorem dX2_init_17 : decode cX2_init 17 = .ok (.putfield 16, 3) := by decide +kernel
theorem dX2_init_20 : decode cX2_init 20 = .ok (.aload_n 0, 1) := by decide +kernel
theorem dX2_init_21 : decode cX2_init 21 = .ok (.iconst 0, 1) := by decide +kernel
theorem dX2_init_22 : decode cX2_init 22 = .ok (.putfield 20, 3) := by decide +kernel
theorem dX2_init_25 : decode cX2_init 25 = .ok (.return_, 1) := by decide +kernel
theorem dX3_init_0 : decode cX3_init 0 = .ok (.aload_n 0, 1) := by decide +kernel
theorem dX3_init_1 : decode cX3_init 1 = .ok (.invokespecial 3, 3) := by decide +kernel
theorem dX3_init_4 : decode cX3_init 4 = .ok (.aload_n 0, 1) := by decide +kernel
theorem dX3_init_5 : decode cX3_init 5 = .ok (.bipush 16, 2) := by decide +kernel
theorem dX3_init_7 : decode cX3_init 7 = .ok (.anewarray 9, 3) := by decide +kernel
theorem dX3_init_10 : decode cX3_init 10 = .ok (.putfield 11, 3) := by decide +kernel
theorem dX3_init_13 : decode cX3_init 13 = .ok (.aload_n 0, 1) := by decide +kernel
theorem dX3_init_14 : decode cX3_init 14 = .ok (.iconst 0, 1) := by decide +kernel
theorem dX3_init_15 : decode cX3_init 15 = .ok (.putfield 17, 3) := by decide +kernel
theorem dX3_init_18 : decode cX3_init 18 = .ok (.aload_n 0, 1) := by decide +kernel
theorem dX3_init_19 : decode cX3_init 19 = .ok (.iconst 0, 1) := by decide +kernel
theorem dX3_init_20 : decode cX3_init 20 = .ok (.putfield 21, 3) := by decide +kernel
theorem dX3_init_23 : decode cX3_init 23 = .ok (.iconst 0, 1) := by decide +kernel
theorem dX3_init_24 : decode cX3_init 24 = .ok (.istore_n 1, 1) := by decide +kernel
theorem dX3_init_25 : decode cX3_init 25 = .ok (.iload_n 1, 1) := by decide +kernel
theorem dX3_init_26 : decode cX3_init 26 = .ok (.bipush 16, 2) := by decide +kernel
theorem dX3_init_28 : decode cX3_init 28 = .ok (.if_icmp .ge 22, 3) := by decide +kernel
theorem dX3_init_31 : decode cX3_init 31 = .ok (.aload_n 0, 1) := by decide +kernel
theorem dX3_init_32 : decode cX3_init 32 = .ok (.getfield 11, 3) := by decide +kernel
theorem dX3_init_35 : decode cX3_init 35 = .ok (.iload_n 1, 1) := by decide +kernel
theorem dX3_init_36 : decode cX3_init 36 = .ok (.new 9, 3) := by decide +kernel
theorem dX3_init_39 : decode cX3_init 39 = .ok (.dup, 1) := by decide +kernel
theorem dX3_init_40 : decode cX3_init 40 = .ok (.invokespecial 24, 3) := by decide +kernel
theorem dX3_init_43 : decode cX3_init 43 = .ok (.aastore, 1) := by decide +kernel
theorem dX3_init_44 : decode cX3_init 44 = .ok (.iinc 1 1, 3) := by decide +kernel
theorem dX3_init_47 : decode cX3_init 47 = .ok (.goto (-22), 3) := by decide +kernel
theorem dX3_init_50 : decode cX3_init 50 = .ok (.return_, 1) := by decide +kernel
theorem dX3_note_0 : decode cX3_note 0 = .ok (.aload_n 0, 1) := by decide +kernel
theorem dX3_note_1 : decode cX3_note 1 = .ok (.getfield 11, 3) := by decide +kernel
theorem dX3_note_4 : decode cX3_note 4 = .ok (.aload_n 0, 1) := by decide +kernel
theorem dX3_note_5 : decode cX3_note 5 = .ok (.getfield 17, 3) := by decide +kernel
theorem dX3_note_8 : decode cX3_note 8 = .ok (.aaload, 1) := by decide +kernel
theorem dX3_note_9 : decode cX3_note 9 = .ok (.aload_n 1, 1) := by decide +kernel
theorem dX3_note_10 : decode cX3_note 10 = .ok (.invokevirtual 25, 3) := by decide +kernel
theorem dX3_note_13 : decode cX3_note 13 = .ok (.aload_n 0, 1) := by decide +kernel
theorem dX3_note_14 : decode cX3_note 14 = .ok (.aload_n 0, 1) := by decide +kernel
theorem dX3_note_15 : decode cX3_note 15 = .ok (.getfield 17, 3) := by decide +kernel
theorem dX3_note_18 : decode cX3_note 18 = .ok (.iconst 1, 1) := by decide +kernel
theorem dX3_note_19 : decode cX3_note 19 = .ok (.iadd, 1) := by decide +kernel
theorem dX3_note_20 : decode cX3_note 20 = .ok (.bipush 16, 2) := by decide +kernel
theorem dX3_note_22 : decode cX3_note 22 = .ok (.irem, 1) := by decide +kernel
theorem dX3_note_23 : decode cX3_note 23 = .ok (.putfield 17, 3) := by decide +kernel
theorem dX3_note_26 : decode cX3_note 26 = .ok (.aload_n 0, 1) := by decide +kernel
theorem dX3_note_27 : decode cX3_note 27 = .ok (.aload_n 0, 1) := by decide +kernel
theorem dX3_note_28 : decode cX3_note 28 = .ok (.getfield 21, 3) := by decide +kernel
theorem dX3_note_31 : decode cX3_note 31 = .ok (.iconst 1, 1) := by decide +kernel
theorem dX3_note_32 : decode cX3_note 32 = .ok (.iadd, 1) := by decide +kernel
theorem dX3_note_33 : decode cX3_note 33 = .ok (.bipush 16, 2) := by decide +kernel
theorem dX3_note_35 : decode cX3_note 35 = .ok (.invokestatic 29, 3) := by decide +kernel
theorem dX3_note_38 : decode cX3_note 38 = .ok (.putfield 21, 3) := by decide +kernel
theorem dX3_note_41 : decode cX3_note 41 = .ok (.return_, 1) := by decide +kernel
theorem dX3_giveBack_0 : decode cX3_giveBack 0 = .ok (.aload_n 0, 1) := by decide +kernel
theorem dX3_giveBack_1 : decode cX3_giveBack 1 = .ok (.aload_n 0, 1) := by decide +kernel
theorem dX3_giveBack_2 : decode cX3_giveBack 2 = .ok (.getfield 17, 3) := by decide +kernel
theorem dX3_giveBack_5 : decode cX3_giveBack 5 = .ok (.iload_n 2, 1) := by decide +kernel
theorem dX3_giveBack_6 : decode cX3_giveBack 6 = .ok (.isub, 1) := by decide +kernel
theorem dX3_giveBack_7 : decode cX3_giveBack 7 = .ok (.bipush 16, 2) := by decide +kernel
theorem dX3_giveBack_9 : decode cX3_giveBack 9 = .ok (.invokestatic 35, 3) := by decide +kernel
theorem dX3_giveBack_12 : decode cX3_giveBack 12 = .ok (.putfield 17, 3) := by decide +kernel
theorem dX3_giveBack_15 : decode cX3_giveBack 15 = .ok (.aload_n 0, 1) := by decide +kernel
theorem dX3_giveBack_16 : decode cX3_giveBack 16 = .ok (.dup, 1) := by decide +kernel
theorem dX3_giveBack_17 : decode cX3_giveBack 17 = .ok (.getfield 21, 3) := by decide +kernel
theorem dX3_giveBack_20 : decode cX3_giveBack 20 = .ok (.iload_n 2, 1) := by decide +kernel
theorem dX3_giveBack_21 : decode cX3_giveBack 21 = .ok (.isub, 1) := by decide +kernel
theorem dX3_giveBack_22 : decode cX3_giveBack 22 = .ok (.putfield 21, 3) := by decide +kernel
theorem dX3_giveBack_25 : decode cX3_giveBack 25 = .ok (.aload_n 1, 1) := by decide +kernel
theorem dX3_giveBack_26 : decode cX3_giveBack 26 = .ok (.aload_n 0, 1) := by decide +kernel
theorem dX3_giveBack_27 : decode cX3_giveBack 27 = .ok (.getfield 11, 3) := by decide +kernel
theorem dX3_giveBack_30 : decode cX3_giveBack 30 = .ok (.aload_n 0, 1) := by decide +kernel
theorem dX3_giveBack_31 : decode cX3_giveBack 31 = .ok (.getfield 17, 3) := by decide +kernel
theorem dX3_giveBack_34 : decode cX3_giveBack 34 = .ok (.aaload, 1) := by decide +kernel
theorem dX3_giveBack_35 : decode cX3_giveBack 35 = .ok (.invokevirtual 25, 3) := by decide +kernel
theorem dX3_giveBack_38 : decode cX3_giveBack 38 = .ok (.return_, 1) := by decide +kernel
theorem dX4_init_0 : decode cX4_init 0 = .ok (.aload_n 0, 1) := by decide +kernel
theorem dX4_init_1 : decode cX4_init 1 = .ok (.invokespecial 3, 3) := by decide +kernel
theorem dX4_init_4 : decode cX4_init 4 = .ok (.aload_n 0, 1) := by decide +kernel
theorem dX4_init_5 : decode cX4_init 5 = .ok (.bipush 6, 2) := by decide +kernel
theorem dX4_init_7 : decode cX4_init 7 = .ok (.newarray .int, 2) := by decide +kernel
theorem dX4_init_9 : decode cX4_init 9 = .ok (.putfield 9, 3) := by decide +kernel
theorem dX4_init_12 : decode cX4_init 12 = .ok (.aload_n 0, 1) := by decide +kernel
theorem dX4_init_13 : decode cX4_init 13 = .ok (.bipush 6, 2) := by decide +kernel
theorem dX4_init_15 : decode cX4_init 15 = .ok (.newarray .boolean, 2) := by decide +kernel
theorem dX4_init_17 : decode cX4_init 17 = .ok (.putfield 15, 3) := by decide +kernel
theorem dX4_init_20 : decode cX4_init 20 = .ok (.aload_n 0, 1) := by decide +kernel
theorem dX4_init_21 : decode cX4_init 21 = .ok (.bipush 7, 2) := by decide +kernel
theorem dX4_init_23 : decode cX4_init 23 = .ok (.newarray .int, 2) := by decide +kernel
theorem dX4_init_25 : decode cX4_init 25 = .ok (.putfield 19, 3) := by decide +kernel
theorem dX4_init_28 : decode cX4_init 28 = .ok (.aload_n 0, 1) := by decide +kernel
theorem dX4_init_29 : decode cX4_init 29 = .ok (.bipush 7, 2) := by decide +kernel
theorem dX4_init_31 : decode cX4_init 31 = .ok (.newarray .int, 2) := by decide +kernel
theorem dX4_init_33 : decode cX4_init 33 = .ok (.putfield 22, 3) := by decide +kernel
theorem dX4_init_36 : decode cX4_init 36 = .ok (.aload_n 0, 1) := by decide +kernel
theorem dX4_init_37 : decode cX4_init 37 = .ok (.iconst 0, 1) := by decide +kernel
theorem dX4_init_38 : decode cX4_init 38 = .ok (.putfield 25, 3) := by decide +kernel
theorem dX4_init_41 : decode cX4_init 41 = .ok (.aload_n 0, 1) := by decide +kernel
theorem dX4_init_42 : decode cX4_init 42 = .ok (.iconst 0, 1) := by decide +kernel
theorem dX4_init_43 : decode cX4_init 43 = .ok (.putfield 29, 3) := by decide +kernel
theorem dX4_init_46 : decode cX4_init 46 = .ok (.return_, 1) := by decide +kernel
theorem dX4_note_0 : decode cX4_note 0 = .ok (.aload_n 0, 1) := by decide +kernel
theorem dX4_note_1 : decode cX4_note 1 = .ok (.getfield 25, 3) := by decide +kernel
theorem dX4_note_4 : decode cX4_note 4 = .ok (.bipush 6, 2) := by decide +kernel
theorem dX4_note_6 : decode cX4_note 6 = .ok (.if_icmp .lt 6, 3) := by decide +kernel
theorem dX4_note_9 : decode cX4_note 9 = .ok (.ldc 32, 2) := by decide +kernel
theorem dX4_note_11 : decode cX4_note 11 = .ok (.ireturn, 1) := by decide +kernel
theorem dX4_note_12 : decode cX4_note 12 = .ok (.aload_n 0, 1) := by decide +kernel
theorem dX4_note_13 : decode cX4_note 13 = .ok (.getfield 9, 3) := by decide +kernel
theorem dX4_note_16 : decode cX4_note 16 = .ok (.aload_n 0, 1) := by decide +kernel
theorem dX4_note_17 : decode cX4_note 17 = .ok (.getfield 25, 3) := by decide +kernel
theorem dX4_note_20 : decode cX4_note 20 = .ok (.iload_n 1, 1) := by decide +kernel
theorem dX4_note_21 : decode cX4_note 21 = .ok (.iastore, 1) := by decide +kernel
theorem dX4_note_22 : decode cX4_note 22 = .ok (.aload_n 0, 1) := by decide +kernel
theorem dX4_note_23 : decode cX4_note 23 = .ok (.getfield 15, 3) := by decide +kernel
theorem dX4_note_26 : decode cX4_note 26 = .ok (.aload_n 0, 1) := by decide +kernel
theorem dX4_note_27 : decode cX4_note 27 = .ok (.getfield 25, 3) := by decide +kernel
theorem dX4_note_30 : decode cX4_note 30 = .ok (.iload_n 2, 1) := by decide +kernel
theorem dX4_note_31 : decode cX4_note 31 = .ok (.bastore, 1) := by decide +kernel
theorem dX4_note_32 : decode cX4_note 32 = .ok (.aload_n 0, 1) := by decide +kernel
theorem dX4_note_33 : decode cX4_note 33 = .ok (.dup, 1) := by decide +kernel
theorem dX4_note_34 : decode cX4_note 34 = .ok (.getfield 25, 3) := by decide +kernel
theorem dX4_note_37 : decode cX4_note 37 = .ok (.iconst 1, 1) := by decide +kernel
theorem dX4_note_38 : decode cX4_note 38 = .ok (.iadd, 1) := by decide +kernel
theorem dX4_note_39 : decode cX4_note 39 = .ok (.putfield 25, 3) := by decide +kernel
theorem dX4_note_42 : decode cX4_note 42 = .ok (.aload_n 0, 1) := by decide +kernel
theorem dX4_note_43 : decode cX4_note 43 = .ok (.getfield 25, 3) := by decide +kernel
theorem dX4_note_46 : decode cX4_note 46 = .ok (.ireturn, 1) := by decide +kernel
theorem dX4_narrow_0 : decode cX4_narrow 0 = .ok (.aload_n 0, 1) := by decide +kernel
theorem dX4_narrow_1 : decode cX4_narrow 1 = .ok (.iconst 0, 1) := by decide +kernel
theorem dX4_narrow_2 : decode cX4_narrow 2 = .ok (.putfield 29, 3) := by decide +kernel
theorem dX4_narrow_5 : decode cX4_narrow 5 = .ok (.aload_n 0, 1) := by decide +kernel
theorem dX4_narrow_6 : decode cX4_narrow 6 = .ok (.iconst 0, 1) := by decide +kernel
theorem dX4_narrow_7 : decode cX4_narrow 7 = .ok (.sipush 9999, 3) := by decide +kernel
theorem dX4_narrow_10 : decode cX4_narrow 10 = .ok (.invokevirtual 33, 3) := by decide +kernel
theorem dX4_narrow_13 : decode cX4_narrow 13 = .ok (.iconst 0, 1) := by decide +kernel
theorem dX4_narrow_14 : decode cX4_narrow 14 = .ok (.istore_n 2, 1) := by decide +kernel
theorem dX4_narrow_15 : decode cX4_narrow 15 = .ok (.iload_n 2, 1) := by decide +kernel
theorem dX4_narrow_16 : decode cX4_narrow 16 = .ok (.aload_n 0, 1) := by decide +kernel
theorem dX4_narrow_17 : decode cX4_narrow 17 = .ok (.getfield 25, 3) := by decide +kernel
theorem dX4_narrow_20 : decode cX4_narrow 20 = .ok (.if_icmp .ge 69, 3) := by decide +kernel
theorem dX4_narrow_23 : decode cX4_narrow 23 = .ok (.aload_n 0, 1) := by decide +kernel
theorem dX4_narrow_24 : decode cX4_narrow 24 = .ok (.getfield 15, 3) := by decide +kernel
theorem dX4_narrow_27 : decode cX4_narrow 27 = .ok (.iload_n 2, 1) := by decide +kernel
theorem dX4_narrow_28 : decode cX4_narrow 28 = .ok (.baload, 1) := by decide +kernel
theorem dX4_narrow_29 : decode cX4_narrow 29 = .ok (.ifCond .eq 30, 3) := by decide +kernel
theorem dX4_narrow_32 : decode cX4_narrow 32 = .ok (.aload_n 0, 1) := by decide +kernel
theorem dX4_narrow_33 : decode cX4_narrow 33 = .ok (.aload_n 1, 1) := by decide +kernel
theorem dX4_narrow_34 : decode cX4_narrow 34 = .ok (.aload_n 0, 1) := by decide +kernel
theorem dX4_narrow_35 : decode cX4_narrow 35 = .ok (.getfield 9, 3) := by decide +kernel
theorem dX4_narrow_38 : decode cX4_narrow 38 = .ok (.iload_n 2, 1) := by decide +kernel
theorem dX4_narrow_39 : decode cX4_narrow 39 = .ok (.iaload, 1) := by decide +kernel
theorem dX4_narrow_40 : decode cX4_narrow 40 = .ok (.invokevirtual 37, 3) := by decide +kernel
theorem dX4_narrow_43 : decode cX4_narrow 43 = .ok (.aload_n 1, 1) := by decide +kernel
theorem dX4_narrow_44 : decode cX4_narrow 44 = .ok (.aload_n 0, 1) := by decide +kernel
theorem dX4_narrow_45 : decode cX4_narrow 45 = .ok (.getfield 9, 3) := by decide +kernel
theorem dX4_narrow_48 : decode cX4_narrow 48 = .ok (.iload_n 2, 1) := by decide +kernel
theorem dX4_narrow_49 : decode cX4_narrow 49 = .ok (.iaload, 1) := by decide +kernel
theorem dX4_narrow_50 : decode cX4_narrow 50 = .ok (.invokevirtual 43, 3) := by decide +kernel
theorem dX4_narrow_53 : decode cX4_narrow 53 = .ok (.invokevirtual 46, 3) := by decide +kernel
theorem dX4_narrow_56 : decode cX4_narrow 56 = .ok (.goto 27, 3) := by decide +kernel
theorem dX4_narrow_59 : decode cX4_narrow 59 = .ok (.aload_n 0, 1) := by decide +kernel
theorem dX4_narrow_60 : decode cX4_narrow 60 = .ok (.aload_n 1, 1) := by decide +kernel
theorem dX4_narrow_61 : decode cX4_narrow 61 = .ok (.aload_n 0, 1) := by decide +kernel
theorem dX4_narrow_62 : decode cX4_narrow 62 = .ok (.getfield 9, 3) := by decide +kernel
theorem dX4_narrow_65 : decode cX4_narrow 65 = .ok (.iload_n 2, 1) := by decide +kernel
theorem dX4_narrow_66 : decode cX4_narrow 66 = .ok (.iaload, 1) := by decide +kernel
theorem dX4_narrow_67 : decode cX4_narrow 67 = .ok (.invokevirtual 37, 3) := by decide +kernel
theorem dX4_narrow_70 : decode cX4_narrow 70 = .ok (.aload_n 1, 1) := by decide +kernel
theorem dX4_narrow_71 : decode cX4_narrow 71 = .ok (.aload_n 0, 1) := by decide +kernel
theorem dX4_narrow_72 : decode cX4_narrow 72 = .ok (.getfield 9, 3) := by decide +kernel
theorem dX4_narrow_75 : decode cX4_narrow 75 = .ok (.iload_n 2, 1) := by decide +kernel
theorem dX4_narrow_76 : decode cX4_narrow 76 = .ok (.iaload, 1) := by decide +kernel
theorem dX4_narrow_77 : decode cX4_narrow 77 = .ok (.invokevirtual 43, 3) := by decide +kernel
theorem dX4_narrow_80 : decode cX4_narrow 80 = .ok (.invokevirtual 49, 3) := by decide +kernel
theorem dX4_narrow_83 : decode cX4_narrow 83 = .ok (.iinc 2 1, 3) := by decide +kernel
theorem dX4_narrow_86 : decode cX4_narrow 86 = .ok (.goto (-71), 3) := by decide +kernel
theorem dX4_narrow_89 : decode cX4_narrow 89 = .ok (.return_, 1) := by decide +kernel
theorem dX4_addRow_0 : decode cX4_addRow 0 = .ok (.aload_n 0, 1) := by decide +kernel
theorem dX4_addRow_1 : decode cX4_addRow 1 = .ok (.getfield 29, 3) := by decide +kernel
theorem dX4_addRow_4 : decode cX4_addRow 4 = .ok (.bipush 6, 2) := by decide +kernel
theorem dX4_addRow_6 : decode cX4_addRow 6 = .ok (.if_icmp .gt 33, 3) := by decide +kernel
theorem dX4_addRow_9 : decode cX4_addRow 9 = .ok (.aload_n 0, 1) := by decide +kernel
theorem dX4_addRow_10 : decode cX4_addRow 10 = .ok (.getfield 19, 3) := by decide +kernel
theorem dX4_addRow_13 : decode cX4_addRow 13 = .ok (.aload_n 0, 1) := by decide +kernel
theorem dX4_addRow_14 : decode cX4_addRow 14 = .ok (.getfield 29, 3) := by decide +kernel
theorem dX4_addRow_17 : decode cX4_addRow 17 = .ok (.iload_n 1, 1) := by decide +kernel
theorem dX4_addRow_18 : decode cX4_addRow 18 = .ok (.iastore, 1) := by decide +kernel
theorem dX4_addRow_19 : decode cX4_addRow 19 = .ok (.aload_n 0, 1) := by decide +kernel
theorem dX4_addRow_20 : decode cX4_addRow 20 = .ok (.getfield 22, 3) := by decide +kernel
theorem dX4_addRow_23 : decode cX4_addRow 23 = .ok (.aload_n 0, 1) := by decide +kernel
theorem dX4_addRow_24 : decode cX4_addRow 24 = .ok (.getfield 29, 3) := by decide +kernel
theorem dX4_addRow_27 : decode cX4_addRow 27 = .ok (.iload_n 2, 1) := by decide +kernel
theorem dX4_addRow_28 : decode cX4_addRow 28 = .ok (.iastore, 1) := by decide +kernel
theorem dX4_addRow_29 : decode cX4_addRow 29 = .ok (.aload_n 0, 1) := by decide +kernel
theorem dX4_addRow_30 : decode cX4_addRow 30 = .ok (.dup, 1) := by decide +kernel
theorem dX4_addRow_31 : decode cX4_addRow 31 = .ok (.getfield 29, 3) := by decide +kernel
theorem dX4_addRow_34 : decode cX4_addRow 34 = .ok (.iconst 1, 1) := by decide +kernel
theorem dX4_addRow_35 : decode cX4_addRow 35 = .ok (.iadd, 1) := by decide +kernel
theorem dX4_addRow_36 : decode cX4_addRow 36 = .ok (.putfield 29, 3) := by decide +kernel
theorem dX4_addRow_39 : decode cX4_addRow 39 = .ok (.return_, 1) := by decide +kernel
theorem dX4_leaveOnly_0 : decode cX4_leaveOnly 0 = .ok (.iconst 0, 1) := by decide +kernel
theorem dX4_leaveOnly_1 : decode cX4_leaveOnly 1 = .ok (.istore_n 3, 1) := by decide +kernel
theorem dX4_leaveOnly_2 : decode cX4_leaveOnly 2 = .ok (.iload_n 3, 1) := by decide +kernel
theorem dX4_leaveOnly_3 : decode cX4_leaveOnly 3 = .ok (.aload_n 0, 1) := by decide +kernel
theorem dX4_leaveOnly_4 : decode cX4_leaveOnly 4 = .ok (.getfield 29, 3) := by decide +kernel
theorem dX4_leaveOnly_7 : decode cX4_leaveOnly 7 = .ok (.if_icmp .ge 41, 3) := by decide +kernel
theorem dX4_leaveOnly_10 : decode cX4_leaveOnly 10 = .ok (.aload_n 0, 1) := by decide +kernel
theorem dX4_leaveOnly_11 : decode cX4_leaveOnly 11 = .ok (.getfield 19, 3) := by decide +kernel
theorem dX4_leaveOnly_14 : decode cX4_leaveOnly 14 = .ok (.iload_n 3, 1) := by decide +kernel
theorem dX4_leaveOnly_15 : decode cX4_leaveOnly 15 = .ok (.aload_n 0, 1) := by decide +kernel
theorem dX4_leaveOnly_16 : decode cX4_leaveOnly 16 = .ok (.getfield 19, 3) := by decide +kernel
theorem dX4_leaveOnly_19 : decode cX4_leaveOnly 19 = .ok (.iload_n 3, 1) := by decide +kernel
theorem dX4_leaveOnly_20 : decode cX4_leaveOnly 20 = .ok (.iaload, 1) := by decide +kernel
theorem dX4_leaveOnly_21 : decode cX4_leaveOnly 21 = .ok (.iload_n 1, 1) := by decide +kernel
theorem dX4_leaveOnly_22 : decode cX4_leaveOnly 22 = .ok (.invokestatic 52, 3) := by decide +kernel
theorem dX4_leaveOnly_25 : decode cX4_leaveOnly 25 = .ok (.iastore, 1) := by decide +kernel
theorem dX4_leaveOnly_26 : decode cX4_leaveOnly 26 = .ok (.aload_n 0, 1) := by decide +kernel
theorem dX4_leaveOnly_27 : decode cX4_leaveOnly 27 = .ok (.getfield 22, 3) := by decide +kernel
theorem dX4_leaveOnly_30 : decode cX4_leaveOnly 30 = .ok (.iload_n 3, 1) := by decide +kernel
theorem dX4_leaveOnly_31 : decode cX4_leaveOnly 31 = .ok (.aload_n 0, 1) := by decide +kernel
theorem dX4_leaveOnly_32 : decode cX4_leaveOnly 32 = .ok (.getfield 22, 3) := by decide +kernel
theorem dX4_leaveOnly_35 : decode cX4_leaveOnly 35 = .ok (.iload_n 3, 1) := by decide +kernel
theorem dX4_leaveOnly_36 : decode cX4_leaveOnly 36 = .ok (.iaload, 1) := by decide +kernel
theorem dX4_leaveOnly_37 : decode cX4_leaveOnly 37 = .ok (.iload_n 2, 1) := by decide +kernel
theorem dX4_leaveOnly_38 : decode cX4_leaveOnly 38 = .ok (.invokestatic 58, 3) := by decide +kernel
theorem dX4_leaveOnly_41 : decode cX4_leaveOnly 41 = .ok (.iastore, 1) := by decide +kernel
theorem dX4_leaveOnly_42 : decode cX4_leaveOnly 42 = .ok (.iinc 3 1, 3) := by decide +kernel
theorem dX4_leaveOnly_45 : decode cX4_leaveOnly 45 = .ok (.goto (-43), 3) := by decide +kernel
theorem dX4_leaveOnly_48 : decode cX4_leaveOnly 48 = .ok (.return_, 1) := by decide +kernel
theorem dX4_cutOut_0 : decode cX4_cutOut 0 = .ok (.aload_n 0, 1) := by decide +kernel
theorem dX4_cutOut_1 : decode cX4_cutOut 1 = .ok (.getfield 29, 3) := by decide +kernel
theorem dX4_cutOut_4 : decode cX4_cutOut 4 = .ok (.istore_n 3, 1) := by decide +kernel
theorem dX4_cutOut_5 : decode cX4_cutOut 5 = .ok (.iconst 0, 1) := by decide +kernel
theorem dX4_cutOut_6 : decode cX4_cutOut 6 = .ok (.istore 4, 2) := by decide +kernel
theorem dX4_cutOut_8 : decode cX4_cutOut 8 = .ok (.iload 4, 2) := by decide +kernel
theorem dX4_cutOut_10 : decode cX4_cutOut 10 = .ok (.iload_n 3, 1) := by decide +kernel
theorem dX4_cutOut_11 : decode cX4_cutOut 11 = .ok (.if_icmp .ge 65, 3) := by decide +kernel
theorem dX4_cutOut_14 : decode cX4_cutOut 14 = .ok (.aload_n 0, 1) := by decide +kernel
theorem dX4_cutOut_15 : decode cX4_cutOut 15 = .ok (.getfield 19, 3) := by decide +kernel
theorem dX4_cutOut_18 : decode cX4_cutOut 18 = .ok (.iload 4, 2) := by decide +kernel
theorem dX4_cutOut_20 : decode cX4_cutOut 20 = .ok (.iaload, 1) := by decide +kernel
theorem dX4_cutOut_21 : decode cX4_cutOut 21 = .ok (.iload_n 2, 1) := by decide +kernel
theorem dX4_cutOut_22 : decode cX4_cutOut 22 = .ok (.if_icmp .gt 48, 3) := by decide +kernel
theorem dX4_cutOut_25 : decode cX4_cutOut 25 = .ok (.iload_n 1, 1) := by decide +kernel
theorem dX4_cutOut_26 : decode cX4_cutOut 26 = .ok (.aload_n 0, 1) := by decide +kernel
theorem dX4_cutOut_27 : decode cX4_cutOut 27 = .ok (.getfield 22, 3) := by decide +kernel
theorem dX4_cutOut_30 : decode cX4_cutOut 30 = .ok (.iload 4, 2) := by decide +kernel
theorem dX4_cutOut_32 : decode cX4_cutOut 32 = .ok (.iaload, 1) := by decide +kernel
theorem dX4_cutOut_33 : decode cX4_cutOut 33 = .ok (.if_icmp .gt 37, 3) := by decide +kernel
theorem dX4_cutOut_36 : decode cX4_cutOut 36 = .ok (.aload_n 0, 1) := by decide +kernel
theorem dX4_cutOut_37 : decode cX4_cutOut 37 = .ok (.getfield 22, 3) := by decide +kernel
theorem dX4_cutOut_40 : decode cX4_cutOut 40 = .ok (.iload 4, 2) := by decide +kernel
theorem dX4_cutOut_42 : decode cX4_cutOut 42 = .ok (.iaload, 1) := by decide +kernel
theorem dX4_cutOut_43 : decode cX4_cutOut 43 = .ok (.istore 5, 2) := by decide +kernel
theorem dX4_cutOut_45 : decode cX4_cutOut 45 = .ok (.aload_n 0, 1) := by decide +kernel
theorem dX4_cutOut_46 : decode cX4_cutOut 46 = .ok (.getfield 22, 3) := by decide +kernel
theorem dX4_cutOut_49 : decode cX4_cutOut 49 = .ok (.iload 4, 2) := by decide +kernel
theorem dX4_cutOut_51 : decode cX4_cutOut 51 = .ok (.iload_n 1, 1) := by decide +kernel
theorem dX4_cutOut_52 : decode cX4_cutOut 52 = .ok (.iconst 1, 1) := by decide +kernel
theorem dX4_cutOut_53 : decode cX4_cutOut 53 = .ok (.isub, 1) := by decide +kernel
theorem dX4_cutOut_54 : decode cX4_cutOut 54 = .ok (.iastore, 1) := by decide +kernel
theorem dX4_cutOut_55 : decode cX4_cutOut 55 = .ok (.iload_n 2, 1) := by decide +kernel
theorem dX4_cutOut_56 : decode cX4_cutOut 56 = .ok (.iload 5, 2) := by decide +kernel
theorem dX4_cutOut_58 : decode cX4_cutOut 58 = .ok (.if_icmp .ge 12, 3) := by decide +kernel
theorem dX4_cutOut_61 : decode cX4_cutOut 61 = .ok (.aload_n 0, 1) := by decide +kernel
theorem dX4_cutOut_62 : decode cX4_cutOut 62 = .ok (.iload_n 2, 1) := by decide +kernel
theorem dX4_cutOut_63 : decode cX4_cutOut 63 = .ok (.iconst 1, 1) := by decide +kernel
theorem dX4_cutOut_64 : decode cX4_cutOut 64 = .ok (.iadd, 1) := by decide +kernel
theorem dX4_cutOut_65 : decode cX4_cutOut 65 = .ok (.iload 5, 2) := by decide +kernel
theorem dX4_cutOut_67 : decode cX4_cutOut 67 = .ok (.invokevirtual 33, 3) := by decide +kernel
theorem dX4_cutOut_70 : decode cX4_cutOut 70 = .ok (.iinc 4 1, 3) := by decide +kernel
theorem dX4_cutOut_73 : decode cX4_cutOut 73 = .ok (.goto (-65), 3) := by decide +kernel
theorem dX4_cutOut_76 : decode cX4_cutOut 76 = .ok (.return_, 1) := by decide +kernel
theorem dX4_count_0 : decode cX4_count 0 = .ok (.aload_n 0, 1) := by decide +kernel
theorem dX4_count_1 : decode cX4_count 1 = .ok (.iconst 0, 1) := by decide +kernel
theorem dX4_count_2 : decode cX4_count 2 = .ok (.sipush 9999, 3) := by decide +kernel
theorem dX4_count_5 : decode cX4_count 5 = .ok (.invokevirtual 61, 3) := by decide +kernel
theorem dX4_count_8 : decode cX4_count 8 = .ok (.ireturn, 1) := by decide +kernel
theorem dX4_countWithin_0 : decode cX4_countWithin 0 = .ok (.iconst 0, 1) := by decide +kernel
theorem dX4_countWithin_1 : decode cX4_countWithin 1 = .ok (.istore_n 3, 1) := by decide +kernel
theorem dX4_countWithin_2 : decode cX4_countWithin 2 = .ok (.iconst 0, 1) := by decide +kernel
theorem dX4_countWithin_3 : decode cX4_countWithin 3 = .ok (.istore 4, 2) := by decide +kernel
theorem dX4_countWithin_5 : decode cX4_countWithin 5 = .ok (.iload 4, 2) := by decide +kernel
theorem dX4_countWithin_7 : decode cX4_countWithin 7 = .ok (.aload_n 0, 1) := by decide +kernel
theorem dX4_countWithin_8 : decode cX4_countWithin 8 = .ok (.getfield 29, 3) := by decide +kernel
theorem dX4_countWithin_11 : decode cX4_countWithin 11 = .ok (.if_icmp .ge 41, 3) := by decide +kernel
theorem dX4_countWithin_14 : decode cX4_countWithin 14 = .ok (.iload_n 3, 1) := by decide +kernel
theorem dX4_countWithin_15 : decode cX4_countWithin 15 = .ok (.iconst 0, 1) := by decide +kernel
theorem dX4_countWithin_16 : decode cX4_countWithin 16 = .ok (.aload_n 0, 1) := by decide +kernel
theorem dX4_countWithin_17 : decode cX4_countWithin 17 = .ok (.getfield 22, 3) := by decide +kernel
theorem dX4_countWithin_20 : decode cX4_countWithin 20 = .ok (.iload 4, 2) := by decide +kernel
theorem dX4_countWithin_22 : decode cX4_countWithin 22 = .ok (.iaload, 1) := by decide +kernel
theorem dX4_countWithin_23 : decode cX4_countWithin 23 = .ok (.iload_n 2, 1) := by decide +kernel
theorem dX4_countWithin_24 : decode cX4_countWithin 24 = .ok (.invokestatic 58, 3) := by decide +kernel
theorem dX4_countWithin_27 : decode cX4_countWithin 27 = .ok (.aload_n 0, 1) := by decide +kernel
theorem dX4_countWithin_28 : decode cX4_countWithin 28 = .ok (.getfield 19, 3) := by decide +kernel
theorem dX4_countWithin_31 : decode cX4_countWithin 31 = .ok (.iload 4, 2) := by decide +kernel
theorem dX4_countWithin_33 : decode cX4_countWithin 33 = .ok (.iaload, 1) := by decide +kernel
theorem dX4_countWithin_34 : decode cX4_countWithin 34 = .ok (.iload_n 1, 1) := by decide +kernel
theorem dX4_countWithin_35 : decode cX4_countWithin 35 = .ok (.invokestatic 52, 3) := by decide +kernel
theorem dX4_countWithin_38 : decode cX4_countWithin 38 = .ok (.isub, 1) := by decide +kernel
theorem dX4_countWithin_39 : decode cX4_countWithin 39 = .ok (.iconst 1, 1) := by decide +kernel
theorem dX4_countWithin_40 : decode cX4_countWithin 40 = .ok (.iadd, 1) := by decide +kernel
theorem dX4_countWithin_41 : decode cX4_countWithin 41 = .ok (.invokestatic 52, 3) := by decide +kernel
theorem dX4_countWithin_44 : decode cX4_countWithin 44 = .ok (.iadd, 1) := by decide +kernel
theorem dX4_countWithin_45 : decode cX4_countWithin 45 = .ok (.istore_n 3, 1) := by decide +kernel
theorem dX4_countWithin_46 : decode cX4_countWithin 46 = .ok (.iinc 4 1, 3) := by decide +kernel
theorem dX4_countWithin_49 : decode cX4_countWithin 49 = .ok (.goto (-44), 3) := by decide +kernel
theorem dX4_countWithin_52 : decode cX4_countWithin 52 = .ok (.iload_n 3, 1) := by decide +kernel
theorem dX4_countWithin_53 : decode cX4_countWithin 53 = .ok (.ireturn, 1) := by decide +kernel
theorem dX4_leastSize_0 : decode cX4_leastSize 0 = .ok (.iconst (-1), 1) := by decide +kernel
theorem dX4_leastSize_1 : decode cX4_leastSize 1 = .ok (.istore_n 1, 1) := by decide +kernel
theorem dX4_leastSize_2 : decode cX4_leastSize 2 = .ok (.iconst 0, 1) := by decide +kernel
theorem dX4_leastSize_3 : decode cX4_leastSize 3 = .ok (.istore_n 2, 1) := by decide +kernel
theorem dX4_leastSize_4 : decode cX4_leastSize 4 = .ok (.iload_n 2, 1) := by decide +kernel
theorem dX4_leastSize_5 : decode cX4_leastSize 5 = .ok (.aload_n 0, 1) := by decide +kernel
theorem dX4_leastSize_6 : decode cX4_leastSize 6 = .ok (.getfield 29, 3) := by decide +kernel
theorem dX4_leastSize_9 : decode cX4_leastSize 9 = .ok (.if_icmp .ge 46, 3) := by decide +kernel
theorem dX4_leastSize_12 : decode cX4_leastSize 12 = .ok (.aload_n 0, 1) := by decide +kernel
theorem dX4_leastSize_13 : decode cX4_leastSize 13 = .ok (.getfield 19, 3) := by decide +kernel
theorem dX4_leastSize_16 : decode cX4_leastSize 16 = .ok (.iload_n 2, 1) := by decide +kernel
theorem dX4_leastSize_17 : decode cX4_leastSize 17 = .ok (.iaload, 1) := by decide +kernel
theorem dX4_leastSize_18 : decode cX4_leastSize 18 = .ok (.aload_n 0, 1) := by decide +kernel
theorem dX4_leastSize_19 : decode cX4_leastSize 19 = .ok (.getfield 22, 3) := by decide +kernel
theorem dX4_leastSize_22 : decode cX4_leastSize 22 = .ok (.iload_n 2, 1) := by decide +kernel
theorem dX4_leastSize_23 : decode cX4_leastSize 23 = .ok (.iaload, 1) := by decide +kernel
theorem dX4_leastSize_24 : decode cX4_leastSize 24 = .ok (.if_icmp .gt 25, 3) := by decide +kernel
theorem dX4_leastSize_27 : decode cX4_leastSize 27 = .ok (.iload_n 1, 1) := by decide +kernel
theorem dX4_leastSize_28 : decode cX4_leastSize 28 = .ok (.iconst (-1), 1) := by decide +kernel
theorem dX4_leastSize_29 : decode cX4_leastSize 29 = .ok (.if_icmp .eq 13, 3) := by decide +kernel
theorem dX4_leastSize_32 : decode cX4_leastSize 32 = .ok (.aload_n 0, 1) := by decide +kernel
theorem dX4_leastSize_33 : decode cX4_leastSize 33 = .ok (.getfield 19, 3) := by decide +kernel
theorem dX4_leastSize_36 : decode cX4_leastSize 36 = .ok (.iload_n 2, 1) := by decide +kernel
theorem dX4_leastSize_37 : decode cX4_leastSize 37 = .ok (.iaload, 1) := by decide +kernel
theorem dX4_leastSize_38 : decode cX4_leastSize 38 = .ok (.iload_n 1, 1) := by decide +kernel
theorem dX4_leastSize_39 : decode cX4_leastSize 39 = .ok (.if_icmp .ge 10, 3) := by decide +kernel
theorem dX4_leastSize_42 : decode cX4_leastSize 42 = .ok (.aload_n 0, 1) := by decide +kernel
theorem dX4_leastSize_43 : decode cX4_leastSize 43 = .ok (.getfield 19, 3) := by decide +kernel
theorem dX4_leastSize_46 : decode cX4_leastSize 46 = .ok (.iload_n 2, 1) := by decide +kernel
theorem dX4_leastSize_47 : decode cX4_leastSize 47 = .ok (.iaload, 1) := by decide +kernel
theorem dX4_leastSize_48 : decode cX4_leastSize 48 = .ok (.istore_n 1, 1) := by decide +kernel
theorem dX4_leastSize_49 : decode cX4_leastSize 49 = .ok (.iinc 2 1, 3) := by decide +kernel
theorem dX4_leastSize_52 : decode cX4_leastSize 52 = .ok (.goto (-48), 3) := by decide +kernel
theorem dX4_leastSize_55 : decode cX4_leastSize 55 = .ok (.iload_n 1, 1) := by decide +kernel
theorem dX4_leastSize_56 : decode cX4_leastSize 56 = .ok (.ireturn, 1) := by decide +kernel
theorem dX4_greatestSize_0 : decode cX4_greatestSize 0 = .ok (.iconst (-1), 1) := by decide +kernel
theorem dX4_greatestSize_1 : decode cX4_greatestSize 1 = .ok (.istore_n 1, 1) := by decide +kernel
theorem dX4_greatestSize_2 : decode cX4_greatestSize 2 = .ok (.iconst 0, 1) := by decide +kernel
theorem dX4_greatestSize_3 : decode cX4_greatestSize 3 = .ok (.istore_n 2, 1) := by decide +kernel
theorem dX4_greatestSize_4 : decode cX4_greatestSize 4 = .ok (.iload_n 2, 1) := by decide +kernel
theorem dX4_greatestSize_5 : decode cX4_greatestSize 5 = .ok (.aload_n 0, 1) := by decide +kernel
theorem dX4_greatestSize_6 : decode cX4_greatestSize 6 = .ok (.getfield 29, 3) := by decide +kernel
theorem dX4_greatestSize_9 : decode cX4_greatestSize 9 = .ok (.if_icmp .ge 35, 3) := by decide +kernel
theorem dX4_greatestSize_12 : decode cX4_greatestSize 12 = .ok (.aload_n 0, 1) := by decide +kernel
theorem dX4_greatestSize_13 : decode cX4_greatestSize 13 = .ok (.getfield 19, 3) := by decide +kernel
theorem dX4_greatestSize_16 : decode cX4_greatestSize 16 = .ok (.iload_n 2, 1) := by decide +kernel
theorem dX4_greatestSize_17 : decode cX4_greatestSize 17 = .ok (.iaload, 1) := by decide +kernel
theorem dX4_greatestSize_18 : decode cX4_greatestSize 18 = .ok (.aload_n 0, 1) := by decide +kernel
theorem dX4_greatestSize_19 : decode cX4_greatestSize 19 = .ok (.getfield 22, 3) := by decide +kernel
theorem dX4_greatestSize_22 : decode cX4_greatestSize 22 = .ok (.iload_n 2, 1) := by decide +kernel
theorem dX4_greatestSize_23 : decode cX4_greatestSize 23 = .ok (.iaload, 1) := by decide +kernel
theorem dX4_greatestSize_24 : decode cX4_greatestSize 24 = .ok (.if_icmp .gt 14, 3) := by decide +kernel
theorem dX4_greatestSize_27 : decode cX4_greatestSize 27 = .ok (.iload_n 1, 1) := by decide +kernel
theorem dX4_greatestSize_28 : decode cX4_greatestSize 28 = .ok (.aload_n 0, 1) := by decide +kernel
theorem dX4_greatestSize_29 : decode cX4_greatestSize 29 = .ok (.getfield 22, 3) := by decide +kernel
theorem dX4_greatestSize_32 : decode cX4_greatestSize 32 = .ok (.iload_n 2, 1) := by decide +kernel
theorem dX4_greatestSize_33 : decode cX4_greatestSize 33 = .ok (.iaload, 1) := by decide +kernel
theorem dX4_greatestSize_34 : decode cX4_greatestSize 34 = .ok (.invokestatic 52, 3) := by decide +kernel
theorem dX4_greatestSize_37 : decode cX4_greatestSize 37 = .ok (.istore_n 1, 1) := by decide +kernel
theorem dX4_greatestSize_38 : decode cX4_greatestSize 38 = .ok (.iinc 2 1, 3) := by decide +kernel
theorem dX4_greatestSize_41 : decode cX4_greatestSize 41 = .ok (.goto (-37), 3) := by decide +kernel
theorem dX4_greatestSize_44 : decode cX4_greatestSize 44 = .ok (.iload_n 1, 1) := by decide +kernel
theorem dX4_greatestSize_45 : decode cX4_greatestSize 45 = .ok (.ireturn, 1) := by decide +kernel
theorem dX4_shaftToTry_0 : decode cX4_shaftToTry 0 = .ok (.aload_n 0, 1) := by decide +kernel
theorem dX4_shaftToTry_1 : decode cX4_shaftToTry 1 = .ok (.invokevirtual 64, 3) := by decide +kernel
theorem dX4_shaftToTry_4 : decode cX4_shaftToTry 4 = .ok (.istore_n 2, 1) := by decide +kernel
theorem dX4_shaftToTry_5 : decode cX4_shaftToTry 5 = .ok (.iconst (-1), 1) := by decide +kernel
theorem dX4_shaftToTry_6 : decode cX4_shaftToTry 6 = .ok (.istore_n 3, 1) := by decide +kernel
theorem dX4_shaftToTry_7 : decode cX4_shaftToTry 7 = .ok (.iload_n 2, 1) := by decide +kernel
theorem dX4_shaftToTry_8 : decode cX4_shaftToTry 8 = .ok (.istore 4, 2) := by decide +kernel
theorem dX4_shaftToTry_10 : decode cX4_shaftToTry 10 = .ok (.iconst 0, 1) := by decide +kernel
theorem dX4_shaftToTry_11 : decode cX4_shaftToTry 11 = .ok (.istore 5, 2) := by decide +kernel
theorem dX4_shaftToTry_13 : decode cX4_shaftToTry 13 = .ok (.iload 5, 2) := by decide +kernel
theorem dX4_shaftToTry_15 : decode cX4_shaftToTry 15 = .ok (.aload_n 1, 1) := by decide +kernel
theorem dX4_shaftToTry_16 : decode cX4_shaftToTry 16 = .ok (.getfield 68, 3) := by decide +kernel
theorem dX4_shaftToTry_19 : decode cX4_shaftToTry 19 = .ok (.if_icmp .ge 62, 3) := by decide +kernel
theorem dX4_shaftToTry_22 : decode cX4_shaftToTry 22 = .ok (.aload_n 0, 1) := by decide +kernel
theorem dX4_shaftToTry_23 : decode cX4_shaftToTry 23 = .ok (.aload_n 1, 1) := by decide +kernel
theorem dX4_shaftToTry_24 : decode cX4_shaftToTry 24 = .ok (.aload_n 1, 1) := by decide +kernel
theorem dX4_shaftToTry_25 : decode cX4_shaftToTry 25 = .ok (.getfield 71, 3) := by decide +kernel
theorem dX4_shaftToTry_28 : decode cX4_shaftToTry 28 = .ok (.iload 5, 2) := by decide +kernel
theorem dX4_shaftToTry_30 : decode cX4_shaftToTry 30 = .ok (.iaload, 1) := by decide +kernel
theorem dX4_shaftToTry_31 : decode cX4_shaftToTry 31 = .ok (.invokevirtual 37, 3) := by decide +kernel
theorem dX4_shaftToTry_34 : decode cX4_shaftToTry 34 = .ok (.aload_n 1, 1) := by decide +kernel
theorem dX4_shaftToTry_35 : decode cX4_shaftToTry 35 = .ok (.aload_n 1, 1) := by decide +kernel
theorem dX4_shaftToTry_36 : decode cX4_shaftToTry 36 = .ok (.getfield 71, 3) := by decide +kernel
theorem dX4_shaftToTry_39 : decode cX4_shaftToTry 39 = .ok (.iload 5, 2) := by decide +kernel
theorem dX4_shaftToTry_41 : decode cX4_shaftToTry 41 = .ok (.iaload, 1) := by decide +kernel
theorem dX4_shaftToTry_42 : decode cX4_shaftToTry 42 = .ok (.invokevirtual 43, 3) := by decide +kernel
theorem dX4_shaftToTry_45 : decode cX4_shaftToTry 45 = .ok (.invokevirtual 61, 3) := by decide +kernel
theorem dX4_shaftToTry_48 : decode cX4_shaftToTry 48 = .ok (.istore 6, 2) := by decide +kernel
theorem dX4_shaftToTry_50 : decode cX4_shaftToTry 50 = .ok (.iload 6, 2) := by decide +kernel
theorem dX4_shaftToTry_52 : decode cX4_shaftToTry 52 = .ok (.iload_n 2, 1) := by decide +kernel
theorem dX4_shaftToTry_53 : decode cX4_shaftToTry 53 = .ok (.iload 6, 2) := by decide +kernel
theorem dX4_shaftToTry_55 : decode cX4_shaftToTry 55 = .ok (.isub, 1) := by decide +kernel
theorem dX4_shaftToTry_56 : decode cX4_shaftToTry 56 = .ok (.invokestatic 52, 3) := by decide +kernel
theorem dX4_shaftToTry_59 : decode cX4_shaftToTry 59 = .ok (.istore 7, 2) := by decide +kernel
theorem dX4_shaftToTry_61 : decode cX4_shaftToTry 61 = .ok (.iload 7, 2) := by decide +kernel
theorem dX4_shaftToTry_63 : decode cX4_shaftToTry 63 = .ok (.iload 4, 2) := by decide +kernel
theorem dX4_shaftToTry_65 : decode cX4_shaftToTry 65 = .ok (.if_icmp .ge 10, 3) := by decide +kernel
theorem dX4_shaftToTry_68 : decode cX4_shaftToTry 68 = .ok (.iload 5, 2) := by decide +kernel
theorem dX4_shaftToTry_70 : decode cX4_shaftToTry 70 = .ok (.istore_n 3, 1) := by decide +kernel
theorem dX4_shaftToTry_71 : decode cX4_shaftToTry 71 = .ok (.iload 7, 2) := by decide +kernel
theorem dX4_shaftToTry_73 : decode cX4_shaftToTry 73 = .ok (.istore 4, 2) := by decide +kernel
theorem dX4_shaftToTry_75 : decode cX4_shaftToTry 75 = .ok (.iinc 5 1, 3) := by decide +kernel
theorem dX4_shaftToTry_78 : decode cX4_shaftToTry 78 = .ok (.goto (-65), 3) := by decide +kernel
theorem dX4_shaftToTry_81 : decode cX4_shaftToTry 81 = .ok (.iload_n 3, 1) := by decide +kernel
theorem dX4_shaftToTry_82 : decode cX4_shaftToTry 82 = .ok (.ireturn, 1) := by decide +kernel
theorem dX5_init_0 : decode cX5_init 0 = .ok (.aload_n 0, 1) := by decide +kernel
theorem dX5_init_1 : decode cX5_init 1 = .ok (.invokespecial 3, 3) := by decide +kernel
theorem dX5_init_4 : decode cX5_init 4 = .ok (.aload_n 0, 1) := by decide +kernel
theorem dX5_init_5 : decode cX5_init 5 = .ok (.bipush 24, 2) := by decide +kernel
theorem dX5_init_7 : decode cX5_init 7 = .ok (.newarray .int, 2) := by decide +kernel
theorem dX5_init_9 : decode cX5_init 9 = .ok (.putfield 9, 3) := by decide +kernel
theorem dX5_init_12 : decode cX5_init 12 = .ok (.aload_n 0, 1) := by decide +kernel
theorem dX5_init_13 : decode cX5_init 13 = .ok (.bipush 24, 2) := by decide +kernel
theorem dX5_init_15 : decode cX5_init 15 = .ok (.newarray .int, 2) := by decide +kernel
theorem dX5_init_17 : decode cX5_init 17 = .ok (.putfield 15, 3) := by decide +kernel
theorem dX5_init_20 : decode cX5_init 20 = .ok (.aload_n 0, 1) := by decide +kernel
theorem dX5_init_21 : decode cX5_init 21 = .ok (.bipush 24, 2) := by decide +kernel
theorem dX5_init_23 : decode cX5_init 23 = .ok (.newarray .int, 2) := by decide +kernel
theorem dX5_init_25 : decode cX5_init 25 = .ok (.putfield 18, 3) := by decide +kernel
theorem dX5_init_28 : decode cX5_init 28 = .ok (.aload_n 0, 1) := by decide +kernel
theorem dX5_init_29 : decode cX5_init 29 = .ok (.bipush 24, 2) := by decide +kernel
theorem dX5_init_31 : decode cX5_init 31 = .ok (.newarray .int, 2) := by decide +kernel
theorem dX5_init_33 : decode cX5_init 33 = .ok (.putfield 21, 3) := by decide +kernel
theorem dX5_init_36 : decode cX5_init 36 = .ok (.aload_n 0, 1) := by decide +kernel
theorem dX5_init_37 : decode cX5_init 37 = .ok (.bipush 24, 2) := by decide +kernel
theorem dX5_init_39 : decode cX5_init 39 = .ok (.newarray .int, 2) := by decide +kernel
theorem dX5_init_41 : decode cX5_init 41 = .ok (.putfield 24, 3) := by decide +kernel
theorem dX5_init_44 : decode cX5_init 44 = .ok (.aload_n 0, 1) := by decide +kernel
theorem dX5_init_45 : decode cX5_init 45 = .ok (.bipush 25, 2) := by decide +kernel
theorem dX5_init_47 : decode cX5_init 47 = .ok (.newarray .int, 2) := by decide +kernel
theorem dX5_init_49 : decode cX5_init 49 = .ok (.putfield 27, 3) := by decide +kernel
theorem dX5_init_52 : decode cX5_init 52 = .ok (.aload_n 0, 1) := by decide +kernel
theorem dX5_init_53 : decode cX5_init 53 = .ok (.bipush 25, 2) := by decide +kernel
theorem dX5_init_55 : decode cX5_init 55 = .ok (.newarray .int, 2) := by decide +kernel
theorem dX5_init_57 : decode cX5_init 57 = .ok (.putfield 30, 3) := by decide +kernel
theorem dX5_init_60 : decode cX5_init 60 = .ok (.aload_n 0, 1) := by decide +kernel
theorem dX5_init_61 : decode cX5_init 61 = .ok (.bipush 25, 2) := by decide +kernel
theorem dX5_init_63 : decode cX5_init 63 = .ok (.newarray .int, 2) := by decide +kernel
theorem dX5_init_65 : decode cX5_init 65 = .ok (.putfield 33, 3) := by decide +kernel
theorem dX5_init_68 : decode cX5_init 68 = .ok (.aload_n 0, 1) := by decide +kernel
theorem dX5_init_69 : decode cX5_init 69 = .ok (.iconst 0, 1) := by decide +kernel
theorem dX5_init_70 : decode cX5_init 70 = .ok (.putfield 36, 3) := by decide +kernel
theorem dX5_init_73 : decode cX5_init 73 = .ok (.aload_n 0, 1) := by decide +kernel
theorem dX5_init_74 : decode cX5_init 74 = .ok (.iconst 0, 1) := by decide +kernel
theorem dX5_init_75 : decode cX5_init 75 = .ok (.putfield 40, 3) := by decide +kernel
theorem dX5_init_78 : decode cX5_init 78 = .ok (.return_, 1) := by decide +kernel
theorem dX5_read_0 : decode cX5_read 0 = .ok (.aload_n 0, 1) := by decide +kernel
theorem dX5_read_1 : decode cX5_read 1 = .ok (.iconst 0, 1) := by decide +kernel
theorem dX5_read_2 : decode cX5_read 2 = .ok (.putfield 36, 3) := by decide +kernel
theorem dX5_read_5 : decode cX5_read 5 = .ok (.iconst 0, 1) := by decide +kernel
theorem dX5_read_6 : decode cX5_read 6 = .ok (.istore_n 2, 1) := by decide +kernel
theorem dX5_read_7 : decode cX5_read 7 = .ok (.iload_n 2, 1) := by decide +kernel
theorem dX5_read_8 : decode cX5_read 8 = .ok (.aload_n 1, 1) := by decide +kernel
theorem dX5_read_9 : decode cX5_read 9 = .ok (.getfield 43, 3) := by decide +kernel
theorem dX5_read_12 : decode cX5_read 12 = .ok (.if_icmp .ge 34, 3) := by decide +kernel
theorem dX5_read_15 : decode cX5_read 15 = .ok (.aload_n 1, 1) := by decide +kernel
theorem dX5_read_16 : decode cX5_read 16 = .ok (.getfield 48, 3) := by decide +kernel
theorem dX5_read_19 : decode cX5_read 19 = .ok (.iload_n 2, 1) := by decide +kernel
theorem dX5_read_20 : decode cX5_read 20 = .ok (.iaload, 1) := by decide +kernel
theorem dX5_read_21 : decode cX5_read 21 = .ok (.istore_n 3, 1) := by decide +kernel
theorem dX5_read_22 : decode cX5_read 22 = .ok (.aload_n 0, 1) := by decide +kernel
theorem dX5_read_23 : decode cX5_read 23 = .ok (.iload_n 3, 1) := by decide +kernel
theorem dX5_read_24 : decode cX5_read 24 = .ok (.invokestatic 50, 3) := by decide +kernel
theorem dX5_read_27 : decode cX5_read 27 = .ok (.aload_n 1, 1) := by decide +kernel
theorem dX5_read_28 : decode cX5_read 28 = .ok (.iload_n 3, 1) := by decide +kernel
theorem dX5_read_29 : decode cX5_read 29 = .ok (.invokevirtual 54, 3) := by decide +kernel
theorem dX5_read_32 : decode cX5_read 32 = .ok (.aload_n 1, 1) := by decide +kernel
theorem dX5_read_33 : decode cX5_read 33 = .ok (.iload_n 3, 1) := by decide +kernel
theorem dX5_read_34 : decode cX5_read 34 = .ok (.invokevirtual 56, 3) := by decide +kernel
theorem dX5_read_37 : decode cX5_read 37 = .ok (.invokevirtual 58, 3) := by decide +kernel
theorem dX5_read_40 : decode cX5_read 40 = .ok (.iinc 2 1, 3) := by decide +kernel
theorem dX5_read_43 : decode cX5_read 43 = .ok (.goto (-36), 3) := by decide +kernel
theorem dX5_read_46 : decode cX5_read 46 = .ok (.aload_n 0, 1) := by decide +kernel
theorem dX5_read_47 : decode cX5_read 47 = .ok (.iconst 0, 1) := by decide +kernel
theorem dX5_read_48 : decode cX5_read 48 = .ok (.putfield 40, 3) := by decide +kernel
theorem dX5_read_51 : decode cX5_read 51 = .ok (.iconst 0, 1) := by decide +kernel
theorem dX5_read_52 : decode cX5_read 52 = .ok (.istore_n 2, 1) := by decide +kernel
theorem dX5_read_53 : decode cX5_read 53 = .ok (.iload_n 2, 1) := by decide +kernel
theorem dX5_read_54 : decode cX5_read 54 = .ok (.aload_n 1, 1) := by decide +kernel
theorem dX5_read_55 : decode cX5_read 55 = .ok (.getfield 62, 3) := by decide +kernel
theorem dX5_read_58 : decode cX5_read 58 = .ok (.if_icmp .ge 22, 3) := by decide +kernel
theorem dX5_read_61 : decode cX5_read 61 = .ok (.aload_n 0, 1) := by decide +kernel
theorem dX5_read_62 : decode cX5_read 62 = .ok (.aload_n 1, 1) := by decide +kernel
theorem dX5_read_63 : decode cX5_read 63 = .ok (.getfield 65, 3) := by decide +kernel
theorem dX5_read_66 : decode cX5_read 66 = .ok (.iload_n 2, 1) := by decide +kernel
theorem dX5_read_67 : decode cX5_read 67 = .ok (.iaload, 1) := by decide +kernel
theorem dX5_read_68 : decode cX5_read 68 = .ok (.invokestatic 50, 3) := by decide +kernel
theorem dX5_read_71 : decode cX5_read 71 = .ok (.invokevirtual 67, 3) := by decide +kernel
theorem dX5_read_74 : decode cX5_read 74 = .ok (.iinc 2 1, 3) := by decide +kernel
theorem dX5_read_77 : decode cX5_read 77 = .ok (.goto (-24), 3) := by decide +kernel
theorem dX5_read_80 : decode cX5_read 80 = .ok (.return_, 1) := by decide +kernel
theorem dX5_addShaft_0 : decode cX5_addShaft 0 = .ok (.aload_n 0, 1) := by decide +kernel
theorem dX5_addShaft_1 : decode cX5_addShaft 1 = .ok (.getfield 36, 3) := by decide +kernel
theorem dX5_addShaft_4 : decode cX5_addShaft 4 = .ok (.bipush 24, 2) := by decide +kernel
theorem dX5_addShaft_6 : decode cX5_addShaft 6 = .ok (.if_icmp .lt 4, 3) := by decide +kernel
theorem dX5_addShaft_9 : decode cX5_addShaft 9 = .ok (.return_, 1) := by decide +kernel
theorem dX5_addShaft_10 : decode cX5_addShaft 10 = .ok (.aload_n 0, 1) := by decide +kernel
theorem dX5_addShaft_11 : decode cX5_addShaft 11 = .ok (.getfield 9, 3) := by decide +kernel
theorem dX5_addShaft_14 : decode cX5_addShaft 14 = .ok (.aload_n 0, 1) := by decide +kernel
theorem dX5_addShaft_15 : decode cX5_addShaft 15 = .ok (.getfield 36, 3) := by decide +kernel
theorem dX5_addShaft_18 : decode cX5_addShaft 18 = .ok (.iload_n 1, 1) := by decide +kernel
theorem dX5_addShaft_19 : decode cX5_addShaft 19 = .ok (.iastore, 1) := by decide +kernel
theorem dX5_addShaft_20 : decode cX5_addShaft 20 = .ok (.aload_n 0, 1) := by decide +kernel
theorem dX5_addShaft_21 : decode cX5_addShaft 21 = .ok (.getfield 15, 3) := by decide +kernel
theorem dX5_addShaft_24 : decode cX5_addShaft 24 = .ok (.aload_n 0, 1) := by decide +kernel
theorem dX5_addShaft_25 : decode cX5_addShaft 25 = .ok (.getfield 36, 3) := by decide +kernel
theorem dX5_addShaft_28 : decode cX5_addShaft 28 = .ok (.iload_n 2, 1) := by decide +kernel
theorem dX5_addShaft_29 : decode cX5_addShaft 29 = .ok (.iastore, 1) := by decide +kernel
theorem dX5_addShaft_30 : decode cX5_addShaft 30 = .ok (.aload_n 0, 1) := by decide +kernel
theorem dX5_addShaft_31 : decode cX5_addShaft 31 = .ok (.getfield 18, 3) := by decide +kernel
theorem dX5_addShaft_34 : decode cX5_addShaft 34 = .ok (.aload_n 0, 1) := by decide +kernel
theorem dX5_addShaft_35 : decode cX5_addShaft 35 = .ok (.getfield 36, 3) := by decide +kernel
theorem dX5_addShaft_38 : decode cX5_addShaft 38 = .ok (.iload_n 3, 1) := by decide +kernel
theorem dX5_addShaft_39 : decode cX5_addShaft 39 = .ok (.iastore, 1) := by decide +kernel
theorem dX5_addShaft_40 : decode cX5_addShaft 40 = .ok (.aload_n 0, 1) := by decide +kernel
theorem dX5_addShaft_41 : decode cX5_addShaft 41 = .ok (.getfield 36, 3) := by decide +kernel
theorem dX5_addShaft_44 : decode cX5_addShaft 44 = .ok (.istore 4, 2) := by decide +kernel
theorem dX5_addShaft_46 : decode cX5_addShaft 46 = .ok (.iload 4, 2) := by decide +kernel
theorem dX5_addShaft_48 : decode cX5_addShaft 48 = .ok (.ifCond .le 45, 3) := by decide +kernel
theorem dX5_addShaft_51 : decode cX5_addShaft 51 = .ok (.aload_n 0, 1) := by decide +kernel
theorem dX5_addShaft_52 : decode cX5_addShaft 52 = .ok (.aload_n 0, 1) := by decide +kernel
theorem dX5_addShaft_53 : decode cX5_addShaft 53 = .ok (.getfield 21, 3) := by decide +kernel
theorem dX5_addShaft_56 : decode cX5_addShaft 56 = .ok (.iload 4, 2) := by decide +kernel
theorem dX5_addShaft_58 : decode cX5_addShaft 58 = .ok (.iconst 1, 1) := by decide +kernel
theorem dX5_addShaft_59 : decode cX5_addShaft 59 = .ok (.isub, 1) := by decide +kernel
theorem dX5_addShaft_60 : decode cX5_addShaft 60 = .ok (.iaload, 1) := by decide +kernel
theorem dX5_addShaft_61 : decode cX5_addShaft 61 = .ok (.aload_n 0, 1) := by decide +kernel
theorem dX5_addShaft_62 : decode cX5_addShaft 62 = .ok (.getfield 36, 3) := by decide +kernel
theorem dX5_addShaft_65 : decode cX5_addShaft 65 = .ok (.invokevirtual 71, 3) := by decide +kernel
theorem dX5_addShaft_68 : decode cX5_addShaft 68 = .ok (.ifCond .eq 25, 3) := by decide +kernel
theorem dX5_addShaft_71 : decode cX5_addShaft 71 = .ok (.aload_n 0, 1) := by decide +kernel
theorem dX5_addShaft_72 : decode cX5_addShaft 72 = .ok (.getfield 21, 3) := by decide +kernel
theorem dX5_addShaft_75 : decode cX5_addShaft 75 = .ok (.iload 4, 2) := by decide +kernel
theorem dX5_addShaft_77 : decode cX5_addShaft 77 = .ok (.aload_n 0, 1) := by decide +kernel
theorem dX5_addShaft_78 : decode cX5_addShaft 78 = .ok (.getfield 21, 3) := by decide +kernel
theorem dX5_addShaft_81 : decode cX5_addShaft 81 = .ok (.iload 4, 2) := by decide +kernel
theorem dX5_addShaft_83 : decode cX5_addShaft 83 = .ok (.iconst 1, 1) := by decide +kernel
theorem dX5_addShaft_84 : decode cX5_addShaft 84 = .ok (.isub, 1) := by decide +kernel
theorem dX5_addShaft_85 : decode cX5_addShaft 85 = .ok (.iaload, 1) := by decide +kernel
theorem dX5_addShaft_86 : decode cX5_addShaft 86 = .ok (.iastore, 1) := by decide +kernel
end
section
theorem dX5_addShaft_87 : decode cX5_addShaft 87 = .ok (.iinc 4 (-1), 3) := by decide +kernel
theorem dX5_addShaft_90 : decode cX5_addShaft 90 = .ok (.goto (-44), 3) := by decide +kernel
theorem dX5_addShaft_93 : decode cX5_addShaft 93 = .ok (.aload_n 0, 1) := by decide +kernel
theorem dX5_addShaft_94 : decode cX5_addShaft 94 = .ok (.getfield 21, 3) := by decide +kernel
theorem dX5_addShaft_97 : decode cX5_addShaft 97 = .ok (.iload 4, 2) := by decide +kernel
theorem dX5_addShaft_99 : decode cX5_addShaft 99 = .ok (.aload_n 0, 1) := by decide +kernel
theorem dX5_addShaft_100 : decode cX5_addShaft 100 = .ok (.getfield 36, 3) := by decide +kernel
theorem dX5_addShaft_103 : decode cX5_addShaft 103 = .ok (.iastore, 1) := by decide +kernel
theorem dX5_addShaft_104 : decode cX5_addShaft 104 = .ok (.aload_n 0, 1) := by decide +kernel
theorem dX5_addShaft_105 : decode cX5_addShaft 105 = .ok (.dup, 1) := by decide +kernel
theorem dX5_addShaft_106 : decode cX5_addShaft 106 = .ok (.getfield 36, 3) := by decide +kernel
theorem dX5_addShaft_109 : decode cX5_addShaft 109 = .ok (.iconst 1, 1) := by decide +kernel
theorem dX5_addShaft_110 : decode cX5_addShaft 110 = .ok (.iadd, 1) := by decide +kernel
theorem dX5_addShaft_111 : decode cX5_addShaft 111 = .ok (.putfield 36, 3) := by decide +kernel
theorem dX5_addShaft_114 : decode cX5_addShaft 114 = .ok (.return_, 1) := by decide +kernel
theorem dX5_closesAfter_0 : decode cX5_closesAfter 0 = .ok (.aload_n 0, 1) := by decide +kernel
theorem dX5_closesAfter_1 : decode cX5_closesAfter 1 = .ok (.getfield 18, 3) := by decide +kernel
theorem dX5_closesAfter_4 : decode cX5_closesAfter 4 = .ok (.iload_n 1, 1) := by decide +kernel
theorem dX5_closesAfter_5 : decode cX5_closesAfter 5 = .ok (.iaload, 1) := by decide +kernel
theorem dX5_closesAfter_6 : decode cX5_closesAfter 6 = .ok (.aload_n 0, 1) := by decide +kernel
theorem dX5_closesAfter_7 : decode cX5_closesAfter 7 = .ok (.getfield 18, 3) := by decide +kernel
theorem dX5_closesAfter_10 : decode cX5_closesAfter 10 = .ok (.iload_n 2, 1) := by decide +kernel
theorem dX5_closesAfter_11 : decode cX5_closesAfter 11 = .ok (.iaload, 1) := by decide +kernel
theorem dX5_closesAfter_12 : decode cX5_closesAfter 12 = .ok (.if_icmp .gt 33, 3) := by decide +kernel
theorem dX5_closesAfter_15 : decode cX5_closesAfter 15 = .ok (.aload_n 0, 1) := by decide +kernel
theorem dX5_closesAfter_16 : decode cX5_closesAfter 16 = .ok (.getfield 18, 3) := by decide +kernel
theorem dX5_closesAfter_19 : decode cX5_closesAfter 19 = .ok (.iload_n 1, 1) := by decide +kernel
theorem dX5_closesAfter_20 : decode cX5_closesAfter 20 = .ok (.iaload, 1) := by decide +kernel
theorem dX5_closesAfter_21 : decode cX5_closesAfter 21 = .ok (.aload_n 0, 1) := by decide +kernel
theorem dX5_closesAfter_22 : decode cX5_closesAfter 22 = .ok (.getfield 18, 3) := by decide +kernel
theorem dX5_closesAfter_25 : decode cX5_closesAfter 25 = .ok (.iload_n 2, 1) := by decide +kernel
theorem dX5_closesAfter_26 : decode cX5_closesAfter 26 = .ok (.iaload, 1) := by decide +kernel
theorem dX5_closesAfter_27 : decode cX5_closesAfter 27 = .ok (.if_icmp .ne 22, 3) := by decide +kernel
theorem dX5_closesAfter_30 : decode cX5_closesAfter 30 = .ok (.aload_n 0, 1) := by decide +kernel
theorem dX5_closesAfter_31 : decode cX5_closesAfter 31 = .ok (.getfield 9, 3) := by decide +kernel
theorem dX5_closesAfter_34 : decode cX5_closesAfter 34 = .ok (.iload_n 1, 1) := by decide +kernel
theorem dX5_closesAfter_35 : decode cX5_closesAfter 35 = .ok (.iaload, 1) := by decide +kernel
theorem dX5_closesAfter_36 : decode cX5_closesAfter 36 = .ok (.aload_n 0, 1) := by decide +kernel
theorem dX5_closesAfter_37 : decode cX5_closesAfter 37 = .ok (.getfield 9, 3) := by decide +kernel
theorem dX5_closesAfter_40 : decode cX5_closesAfter 40 = .ok (.iload_n 2, 1) := by decide +kernel
theorem dX5_closesAfter_41 : decode cX5_closesAfter 41 = .ok (.iaload, 1) := by decide +kernel
theorem dX5_closesAfter_42 : decode cX5_closesAfter 42 = .ok (.if_icmp .le 7, 3) := by decide +kernel
theorem dX5_closesAfter_45 : decode cX5_closesAfter 45 = .ok (.iconst 1, 1) := by decide +kernel
theorem dX5_closesAfter_46 : decode cX5_closesAfter 46 = .ok (.goto 4, 3) := by decide +kernel
theorem dX5_closesAfter_49 : decode cX5_closesAfter 49 = .ok (.iconst 0, 1) := by decide +kernel
theorem dX5_closesAfter_50 : decode cX5_closesAfter 50 = .ok (.ireturn, 1) := by decide +kernel
theorem dX5_addBore_0 : decode cX5_addBore 0 = .ok (.aload_n 0, 1) := by decide +kernel
theorem dX5_addBore_1 : decode cX5_addBore 1 = .ok (.getfield 40, 3) := by decide +kernel
theorem dX5_addBore_4 : decode cX5_addBore 4 = .ok (.bipush 24, 2) := by decide +kernel
theorem dX5_addBore_6 : decode cX5_addBore 6 = .ok (.if_icmp .le 4, 3) := by decide +kernel
theorem dX5_addBore_9 : decode cX5_addBore 9 = .ok (.return_, 1) := by decide +kernel
theorem dX5_addBore_10 : decode cX5_addBore 10 = .ok (.aload_n 0, 1) := by decide +kernel
theorem dX5_addBore_11 : decode cX5_addBore 11 = .ok (.getfield 27, 3) := by decide +kernel
theorem dX5_addBore_14 : decode cX5_addBore 14 = .ok (.aload_n 0, 1) := by decide +kernel
theorem dX5_addBore_15 : decode cX5_addBore 15 = .ok (.getfield 40, 3) := by decide +kernel
theorem dX5_addBore_18 : decode cX5_addBore 18 = .ok (.iload_n 1, 1) := by decide +kernel
theorem dX5_addBore_19 : decode cX5_addBore 19 = .ok (.iastore, 1) := by decide +kernel
theorem dX5_addBore_20 : decode cX5_addBore 20 = .ok (.aload_n 0, 1) := by decide +kernel
theorem dX5_addBore_21 : decode cX5_addBore 21 = .ok (.getfield 40, 3) := by decide +kernel
theorem dX5_addBore_24 : decode cX5_addBore 24 = .ok (.istore_n 2, 1) := by decide +kernel
theorem dX5_addBore_25 : decode cX5_addBore 25 = .ok (.iload_n 2, 1) := by decide +kernel
theorem dX5_addBore_26 : decode cX5_addBore 26 = .ok (.ifCond .le 40, 3) := by decide +kernel
theorem dX5_addBore_29 : decode cX5_addBore 29 = .ok (.aload_n 0, 1) := by decide +kernel
theorem dX5_addBore_30 : decode cX5_addBore 30 = .ok (.getfield 27, 3) := by decide +kernel
theorem dX5_addBore_33 : decode cX5_addBore 33 = .ok (.aload_n 0, 1) := by decide +kernel
theorem dX5_addBore_34 : decode cX5_addBore 34 = .ok (.getfield 30, 3) := by decide +kernel
theorem dX5_addBore_37 : decode cX5_addBore 37 = .ok (.iload_n 2, 1) := by decide +kernel
theorem dX5_addBore_38 : decode cX5_addBore 38 = .ok (.iconst 1, 1) := by decide +kernel
theorem dX5_addBore_39 : decode cX5_addBore 39 = .ok (.isub, 1) := by decide +kernel
theorem dX5_addBore_40 : decode cX5_addBore 40 = .ok (.iaload, 1) := by decide +kernel
theorem dX5_addBore_41 : decode cX5_addBore 41 = .ok (.iaload, 1) := by decide +kernel
theorem dX5_addBore_42 : decode cX5_addBore 42 = .ok (.iload_n 1, 1) := by decide +kernel
theorem dX5_addBore_43 : decode cX5_addBore 43 = .ok (.if_icmp .le 23, 3) := by decide +kernel
theorem dX5_addBore_46 : decode cX5_addBore 46 = .ok (.aload_n 0, 1) := by decide +kernel
theorem dX5_addBore_47 : decode cX5_addBore 47 = .ok (.getfield 30, 3) := by decide +kernel
theorem dX5_addBore_50 : decode cX5_addBore 50 = .ok (.iload_n 2, 1) := by decide +kernel
theorem dX5_addBore_51 : decode cX5_addBore 51 = .ok (.aload_n 0, 1) := by decide +kernel
theorem dX5_addBore_52 : decode cX5_addBore 52 = .ok (.getfield 30, 3) := by decide +kernel
theorem dX5_addBore_55 : decode cX5_addBore 55 = .ok (.iload_n 2, 1) := by decide +kernel
theorem dX5_addBore_56 : decode cX5_addBore 56 = .ok (.iconst 1, 1) := by decide +kernel
theorem dX5_addBore_57 : decode cX5_addBore 57 = .ok (.isub, 1) := by decide +kernel
theorem dX5_addBore_58 : decode cX5_addBore 58 = .ok (.iaload, 1) := by decide +kernel
theorem dX5_addBore_59 : decode cX5_addBore 59 = .ok (.iastore, 1) := by decide +kernel
theorem dX5_addBore_60 : decode cX5_addBore 60 = .ok (.iinc 2 (-1), 3) := by decide +kernel
theorem dX5_addBore_63 : decode cX5_addBore 63 = .ok (.goto (-38), 3) := by decide +kernel
theorem dX5_addBore_66 : decode cX5_addBore 66 = .ok (.aload_n 0, 1) := by decide +kernel
theorem dX5_addBore_67 : decode cX5_addBore 67 = .ok (.getfield 30, 3) := by decide +kernel
theorem dX5_addBore_70 : decode cX5_addBore 70 = .ok (.iload_n 2, 1) := by decide +kernel
theorem dX5_addBore_71 : decode cX5_addBore 71 = .ok (.aload_n 0, 1) := by decide +kernel
theorem dX5_addBore_72 : decode cX5_addBore 72 = .ok (.getfield 40, 3) := by decide +kernel
theorem dX5_addBore_75 : decode cX5_addBore 75 = .ok (.iastore, 1) := by decide +kernel
theorem dX5_addBore_76 : decode cX5_addBore 76 = .ok (.aload_n 0, 1) := by decide +kernel
theorem dX5_addBore_77 : decode cX5_addBore 77 = .ok (.dup, 1) := by decide +kernel
theorem dX5_addBore_78 : decode cX5_addBore 78 = .ok (.getfield 40, 3) := by decide +kernel
theorem dX5_addBore_81 : decode cX5_addBore 81 = .ok (.iconst 1, 1) := by decide +kernel
theorem dX5_addBore_82 : decode cX5_addBore 82 = .ok (.iadd, 1) := by decide +kernel
theorem dX5_addBore_83 : decode cX5_addBore 83 = .ok (.putfield 40, 3) := by decide +kernel
theorem dX5_addBore_86 : decode cX5_addBore 86 = .ok (.return_, 1) := by decide +kernel
theorem dX5_dropLatestBore_0 : decode cX5_dropLatestBore 0 = .ok (.aload_n 0, 1) := by decide +kernel
theorem dX5_dropLatestBore_1 : decode cX5_dropLatestBore 1 = .ok (.dup, 1) := by decide +kernel
theorem dX5_dropLatestBore_2 : decode cX5_dropLatestBore 2 = .ok (.getfield 40, 3) := by decide +kernel
theorem dX5_dropLatestBore_5 : decode cX5_dropLatestBore 5 = .ok (.iconst 1, 1) := by decide +kernel
theorem dX5_dropLatestBore_6 : decode cX5_dropLatestBore 6 = .ok (.isub, 1) := by decide +kernel
theorem dX5_dropLatestBore_7 : decode cX5_dropLatestBore 7 = .ok (.putfield 40, 3) := by decide +kernel
theorem dX5_dropLatestBore_10 : decode cX5_dropLatestBore 10 = .ok (.iconst 0, 1) := by decide +kernel
theorem dX5_dropLatestBore_11 : decode cX5_dropLatestBore 11 = .ok (.istore_n 1, 1) := by decide +kernel
theorem dX5_dropLatestBore_12 : decode cX5_dropLatestBore 12 = .ok (.iconst 0, 1) := by decide +kernel
theorem dX5_dropLatestBore_13 : decode cX5_dropLatestBore 13 = .ok (.istore_n 2, 1) := by decide +kernel
theorem dX5_dropLatestBore_14 : decode cX5_dropLatestBore 14 = .ok (.iload_n 2, 1) := by decide +kernel
theorem dX5_dropLatestBore_15 : decode cX5_dropLatestBore 15 = .ok (.aload_n 0, 1) := by decide +kernel
theorem dX5_dropLatestBore_16 : decode cX5_dropLatestBore 16 = .ok (.getfield 40, 3) := by decide +kernel
theorem dX5_dropLatestBore_19 : decode cX5_dropLatestBore 19 = .ok (.if_icmp .gt 37, 3) := by decide +kernel
theorem dX5_dropLatestBore_22 : decode cX5_dropLatestBore 22 = .ok (.aload_n 0, 1) := by decide +kernel
theorem dX5_dropLatestBore_23 : decode cX5_dropLatestBore 23 = .ok (.getfield 30, 3) := by decide +kernel
theorem dX5_dropLatestBore_26 : decode cX5_dropLatestBore 26 = .ok (.iload_n 2, 1) := by decide +kernel
theorem dX5_dropLatestBore_27 : decode cX5_dropLatestBore 27 = .ok (.iaload, 1) := by decide +kernel
theorem dX5_dropLatestBore_28 : decode cX5_dropLatestBore 28 = .ok (.aload_n 0, 1) := by decide +kernel
theorem dX5_dropLatestBore_29 : decode cX5_dropLatestBore 29 = .ok (.getfield 40, 3) := by decide +kernel
theorem dX5_dropLatestBore_32 : decode cX5_dropLatestBore 32 = .ok (.if_icmp .eq 18, 3) := by decide +kernel
theorem dX5_dropLatestBore_35 : decode cX5_dropLatestBore 35 = .ok (.aload_n 0, 1) := by decide +kernel
theorem dX5_dropLatestBore_36 : decode cX5_dropLatestBore 36 = .ok (.getfield 30, 3) := by decide +kernel
theorem dX5_dropLatestBore_39 : decode cX5_dropLatestBore 39 = .ok (.iload_n 1, 1) := by decide +kernel
theorem dX5_dropLatestBore_40 : decode cX5_dropLatestBore 40 = .ok (.aload_n 0, 1) := by decide +kernel
theorem dX5_dropLatestBore_41 : decode cX5_dropLatestBore 41 = .ok (.getfield 30, 3) := by decide +kernel
theorem dX5_dropLatestBore_44 : decode cX5_dropLatestBore 44 = .ok (.iload_n 2, 1) := by decide +kernel
theorem dX5_dropLatestBore_45 : decode cX5_dropLatestBore 45 = .ok (.iaload, 1) := by decide +kernel
theorem dX5_dropLatestBore_46 : decode cX5_dropLatestBore 46 = .ok (.iastore, 1) := by decide +kernel
theorem dX5_dropLatestBore_47 : decode cX5_dropLatestBore 47 = .ok (.iinc 1 1, 3) := by decide +kernel
theorem dX5_dropLatestBore_50 : decode cX5_dropLatestBore 50 = .ok (.iinc 2 1, 3) := by decide +kernel
theorem dX5_dropLatestBore_53 : decode cX5_dropLatestBore 53 = .ok (.goto (-39), 3) := by decide +kernel
theorem dX5_dropLatestBore_56 : decode cX5_dropLatestBore 56 = .ok (.return_, 1) := by decide +kernel
theorem dX5_pair_0 : decode cX5_pair 0 = .ok (.iconst 0, 1) := by decide +kernel
theorem dX5_pair_1 : decode cX5_pair 1 = .ok (.istore_n 2, 1) := by decide +kernel
theorem dX5_pair_2 : decode cX5_pair 2 = .ok (.iload_n 2, 1) := by decide +kernel
theorem dX5_pair_3 : decode cX5_pair 3 = .ok (.aload_n 0, 1) := by decide +kernel
theorem dX5_pair_4 : decode cX5_pair 4 = .ok (.getfield 36, 3) := by decide +kernel
theorem dX5_pair_7 : decode cX5_pair 7 = .ok (.if_icmp .ge 16, 3) := by decide +kernel
theorem dX5_pair_10 : decode cX5_pair 10 = .ok (.aload_n 0, 1) := by decide +kernel
theorem dX5_pair_11 : decode cX5_pair 11 = .ok (.getfield 24, 3) := by decide +kernel
theorem dX5_pair_14 : decode cX5_pair 14 = .ok (.iload_n 2, 1) := by decide +kernel
theorem dX5_pair_15 : decode cX5_pair 15 = .ok (.iconst (-1), 1) := by decide +kernel
theorem dX5_pair_16 : decode cX5_pair 16 = .ok (.iastore, 1) := by decide +kernel
theorem dX5_pair_17 : decode cX5_pair 17 = .ok (.iinc 2 1, 3) := by decide +kernel
theorem dX5_pair_20 : decode cX5_pair 20 = .ok (.goto (-18), 3) := by decide +kernel
theorem dX5_pair_23 : decode cX5_pair 23 = .ok (.iconst 0, 1) := by decide +kernel
theorem dX5_pair_24 : decode cX5_pair 24 = .ok (.istore_n 2, 1) := by decide +kernel
theorem dX5_pair_25 : decode cX5_pair 25 = .ok (.iconst 0, 1) := by decide +kernel
theorem dX5_pair_26 : decode cX5_pair 26 = .ok (.istore_n 3, 1) := by decide +kernel
theorem dX5_pair_27 : decode cX5_pair 27 = .ok (.iload_n 3, 1) := by decide +kernel
theorem dX5_pair_28 : decode cX5_pair 28 = .ok (.aload_n 0, 1) := by decide +kernel
theorem dX5_pair_29 : decode cX5_pair 29 = .ok (.getfield 40, 3) := by decide +kernel
theorem dX5_pair_32 : decode cX5_pair 32 = .ok (.if_icmp .ge 58, 3) := by decide +kernel
theorem dX5_pair_35 : decode cX5_pair 35 = .ok (.aload_n 0, 1) := by decide +kernel
theorem dX5_pair_36 : decode cX5_pair 36 = .ok (.getfield 30, 3) := by decide +kernel
theorem dX5_pair_39 : decode cX5_pair 39 = .ok (.iload_n 3, 1) := by decide +kernel
theorem dX5_pair_40 : decode cX5_pair 40 = .ok (.iaload, 1) := by decide +kernel
theorem dX5_pair_41 : decode cX5_pair 41 = .ok (.istore 4, 2) := by decide +kernel
theorem dX5_pair_43 : decode cX5_pair 43 = .ok (.aload_n 0, 1) := by decide +kernel
theorem dX5_pair_44 : decode cX5_pair 44 = .ok (.aload_n 0, 1) := by decide +kernel
theorem dX5_pair_45 : decode cX5_pair 45 = .ok (.getfield 27, 3) := by decide +kernel
theorem dX5_pair_48 : decode cX5_pair 48 = .ok (.iload 4, 2) := by decide +kernel
theorem dX5_pair_50 : decode cX5_pair 50 = .ok (.iaload, 1) := by decide +kernel
theorem dX5_pair_51 : decode cX5_pair 51 = .ok (.iload_n 1, 1) := by decide +kernel
theorem dX5_pair_52 : decode cX5_pair 52 = .ok (.invokevirtual 75, 3) := by decide +kernel
theorem dX5_pair_55 : decode cX5_pair 55 = .ok (.istore 5, 2) := by decide +kernel
theorem dX5_pair_57 : decode cX5_pair 57 = .ok (.aload_n 0, 1) := by decide +kernel
theorem dX5_pair_58 : decode cX5_pair 58 = .ok (.getfield 33, 3) := by decide +kernel
theorem dX5_pair_61 : decode cX5_pair 61 = .ok (.iload 4, 2) := by decide +kernel
theorem dX5_pair_63 : decode cX5_pair 63 = .ok (.iload 5, 2) := by decide +kernel
theorem dX5_pair_65 : decode cX5_pair 65 = .ok (.iastore, 1) := by decide +kernel
theorem dX5_pair_66 : decode cX5_pair 66 = .ok (.iload 5, 2) := by decide +kernel
theorem dX5_pair_68 : decode cX5_pair 68 = .ok (.iconst (-1), 1) := by decide +kernel
theorem dX5_pair_69 : decode cX5_pair 69 = .ok (.if_icmp .eq 15, 3) := by decide +kernel
theorem dX5_pair_72 : decode cX5_pair 72 = .ok (.aload_n 0, 1) := by decide +kernel
theorem dX5_pair_73 : decode cX5_pair 73 = .ok (.getfield 24, 3) := by decide +kernel
theorem dX5_pair_76 : decode cX5_pair 76 = .ok (.iload 5, 2) := by decide +kernel
theorem dX5_pair_78 : decode cX5_pair 78 = .ok (.iload 4, 2) := by decide +kernel
theorem dX5_pair_80 : decode cX5_pair 80 = .ok (.iastore, 1) := by decide +kernel
theorem dX5_pair_81 : decode cX5_pair 81 = .ok (.iinc 2 1, 3) := by decide +kernel
theorem dX5_pair_84 : decode cX5_pair 84 = .ok (.iinc 3 1, 3) := by decide +kernel
theorem dX5_pair_87 : decode cX5_pair 87 = .ok (.goto (-60), 3) := by decide +kernel
theorem dX5_pair_90 : decode cX5_pair 90 = .ok (.iload_n 2, 1) := by decide +kernel
theorem dX5_pair_91 : decode cX5_pair 91 = .ok (.ireturn, 1) := by decide +kernel
theorem dX5_firstToClose_0 : decode cX5_firstToClose 0 = .ok (.iconst 0, 1) := by decide +kernel
theorem dX5_firstToClose_1 : decode cX5_firstToClose 1 = .ok (.istore_n 3, 1) := by decide +kernel
theorem dX5_firstToClose_2 : decode cX5_firstToClose 2 = .ok (.iload_n 3, 1) := by decide +kernel
theorem dX5_firstToClose_3 : decode cX5_firstToClose 3 = .ok (.aload_n 0, 1) := by decide +kernel
theorem dX5_firstToClose_4 : decode cX5_firstToClose 4 = .ok (.getfield 36, 3) := by decide +kernel
theorem dX5_firstToClose_7 : decode cX5_firstToClose 7 = .ok (.if_icmp .ge 57, 3) := by decide +kernel
theorem dX5_firstToClose_10 : decode cX5_firstToClose 10 = .ok (.aload_n 0, 1) := by decide +kernel
theorem dX5_firstToClose_11 : decode cX5_firstToClose 11 = .ok (.getfield 21, 3) := by decide +kernel
theorem dX5_firstToClose_14 : decode cX5_firstToClose 14 = .ok (.iload_n 3, 1) := by decide +kernel
theorem dX5_firstToClose_15 : decode cX5_firstToClose 15 = .ok (.iaload, 1) := by decide +kernel
theorem dX5_firstToClose_16 : decode cX5_firstToClose 16 = .ok (.istore 4, 2) := by decide +kernel
theorem dX5_firstToClose_18 : decode cX5_firstToClose 18 = .ok (.aload_n 0, 1) := by decide +kernel
theorem dX5_firstToClose_19 : decode cX5_firstToClose 19 = .ok (.getfield 24, 3) := by decide +kernel
theorem dX5_firstToClose_22 : decode cX5_firstToClose 22 = .ok (.iload 4, 2) := by decide +kernel
theorem dX5_firstToClose_24 : decode cX5_firstToClose 24 = .ok (.iaload, 1) := by decide +kernel
theorem dX5_firstToClose_25 : decode cX5_firstToClose 25 = .ok (.iconst (-1), 1) := by decide +kernel
theorem dX5_firstToClose_26 : decode cX5_firstToClose 26 = .ok (.if_icmp .ne 32, 3) := by decide +kernel
theorem dX5_firstToClose_29 : decode cX5_firstToClose 29 = .ok (.aload_n 0, 1) := by decide +kernel
theorem dX5_firstToClose_30 : decode cX5_firstToClose 30 = .ok (.getfield 15, 3) := by decide +kernel
theorem dX5_firstToClose_33 : decode cX5_firstToClose 33 = .ok (.iload 4, 2) := by decide +kernel
theorem dX5_firstToClose_35 : decode cX5_firstToClose 35 = .ok (.iaload, 1) := by decide +kernel
theorem dX5_firstToClose_36 : decode cX5_firstToClose 36 = .ok (.iload_n 2, 1) := by decide +kernel
theorem dX5_firstToClose_37 : decode cX5_firstToClose 37 = .ok (.isub, 1) := by decide +kernel
theorem dX5_firstToClose_38 : decode cX5_firstToClose 38 = .ok (.iload_n 1, 1) := by decide +kernel
theorem dX5_firstToClose_39 : decode cX5_firstToClose 39 = .ok (.if_icmp .gt 19, 3) := by decide +kernel
theorem dX5_firstToClose_42 : decode cX5_firstToClose 42 = .ok (.iload_n 1, 1) := by decide +kernel
theorem dX5_firstToClose_43 : decode cX5_firstToClose 43 = .ok (.aload_n 0, 1) := by decide +kernel
theorem dX5_firstToClose_44 : decode cX5_firstToClose 44 = .ok (.getfield 18, 3) := by decide +kernel
theorem dX5_firstToClose_47 : decode cX5_firstToClose 47 = .ok (.iload 4, 2) := by decide +kernel
theorem dX5_firstToClose_49 : decode cX5_firstToClose 49 = .ok (.iaload, 1) := by decide +kernel
theorem dX5_firstToClose_50 : decode cX5_firstToClose 50 = .ok (.iload_n 2, 1) := by decide +kernel
theorem dX5_firstToClose_51 : decode cX5_firstToClose 51 = .ok (.iadd, 1) := by decide +kernel
theorem dX5_firstToClose_52 : decode cX5_firstToClose 52 = .ok (.if_icmp .gt 6, 3) := by decide +kernel
theorem dX5_firstToClose_55 : decode cX5_firstToClose 55 = .ok (.iload 4, 2) := by decide +kernel
theorem dX5_firstToClose_57 : decode cX5_firstToClose 57 = .ok (.ireturn, 1) := by decide +kernel
theorem dX5_firstToClose_58 : decode cX5_firstToClose 58 = .ok (.iinc 3 1, 3) := by decide +kernel
theorem dX5_firstToClose_61 : decode cX5_firstToClose 61 = .ok (.goto (-59), 3) := by decide +kernel
theorem dX5_firstToClose_64 : decode cX5_firstToClose 64 = .ok (.iconst (-1), 1) := by decide +kernel
theorem dX5_firstToClose_65 : decode cX5_firstToClose 65 = .ok (.ireturn, 1) := by decide +kernel
theorem dX5_leastPlay_0 : decode cX5_leastPlay 0 = .ok (.iconst (-1), 1) := by decide +kernel
theorem dX5_leastPlay_1 : decode cX5_leastPlay 1 = .ok (.istore_n 1, 1) := by decide +kernel
theorem dX5_leastPlay_2 : decode cX5_leastPlay 2 = .ok (.iconst 0, 1) := by decide +kernel
theorem dX5_leastPlay_3 : decode cX5_leastPlay 3 = .ok (.istore_n 2, 1) := by decide +kernel
theorem dX5_leastPlay_4 : decode cX5_leastPlay 4 = .ok (.iload_n 2, 1) := by decide +kernel
theorem dX5_leastPlay_5 : decode cX5_leastPlay 5 = .ok (.aload_n 0, 1) := by decide +kernel
theorem dX5_leastPlay_6 : decode cX5_leastPlay 6 = .ok (.getfield 36, 3) := by decide +kernel
theorem dX5_leastPlay_9 : decode cX5_leastPlay 9 = .ok (.if_icmp .ge 39, 3) := by decide +kernel
theorem dX5_leastPlay_12 : decode cX5_leastPlay 12 = .ok (.aload_n 0, 1) := by decide +kernel
theorem dX5_leastPlay_13 : decode cX5_leastPlay 13 = .ok (.getfield 24, 3) := by decide +kernel
theorem dX5_leastPlay_16 : decode cX5_leastPlay 16 = .ok (.iload_n 2, 1) := by decide +kernel
theorem dX5_leastPlay_17 : decode cX5_leastPlay 17 = .ok (.iaload, 1) := by decide +kernel
theorem dX5_leastPlay_18 : decode cX5_leastPlay 18 = .ok (.iconst (-1), 1) := by decide +kernel
theorem dX5_leastPlay_19 : decode cX5_leastPlay 19 = .ok (.if_icmp .eq 23, 3) := by decide +kernel
theorem dX5_leastPlay_22 : decode cX5_leastPlay 22 = .ok (.iload_n 1, 1) := by decide +kernel
theorem dX5_leastPlay_23 : decode cX5_leastPlay 23 = .ok (.iconst (-1), 1) := by decide +kernel
theorem dX5_leastPlay_24 : decode cX5_leastPlay 24 = .ok (.if_icmp .eq 12, 3) := by decide +kernel
theorem dX5_leastPlay_27 : decode cX5_leastPlay 27 = .ok (.aload_n 0, 1) := by decide +kernel
theorem dX5_leastPlay_28 : decode cX5_leastPlay 28 = .ok (.iload_n 2, 1) := by decide +kernel
theorem dX5_leastPlay_29 : decode cX5_leastPlay 29 = .ok (.invokevirtual 79, 3) := by decide +kernel
theorem dX5_leastPlay_32 : decode cX5_leastPlay 32 = .ok (.iload_n 1, 1) := by decide +kernel
theorem dX5_leastPlay_33 : decode cX5_leastPlay 33 = .ok (.if_icmp .ge 9, 3) := by decide +kernel
theorem dX5_leastPlay_36 : decode cX5_leastPlay 36 = .ok (.aload_n 0, 1) := by decide +kernel
theorem dX5_leastPlay_37 : decode cX5_leastPlay 37 = .ok (.iload_n 2, 1) := by decide +kernel
theorem dX5_leastPlay_38 : decode cX5_leastPlay 38 = .ok (.invokevirtual 79, 3) := by decide +kernel
theorem dX5_leastPlay_41 : decode cX5_leastPlay 41 = .ok (.istore_n 1, 1) := by decide +kernel
theorem dX5_leastPlay_42 : decode cX5_leastPlay 42 = .ok (.iinc 2 1, 3) := by decide +kernel
theorem dX5_leastPlay_45 : decode cX5_leastPlay 45 = .ok (.goto (-41), 3) := by decide +kernel
theorem dX5_leastPlay_48 : decode cX5_leastPlay 48 = .ok (.iload_n 1, 1) := by decide +kernel
theorem dX5_leastPlay_49 : decode cX5_leastPlay 49 = .ok (.ireturn, 1) := by decide +kernel
theorem dX5_greatestPlay_0 : decode cX5_greatestPlay 0 = .ok (.iconst (-1), 1) := by decide +kernel
theorem dX5_greatestPlay_1 : decode cX5_greatestPlay 1 = .ok (.istore_n 1, 1) := by decide +kernel
theorem dX5_greatestPlay_2 : decode cX5_greatestPlay 2 = .ok (.iconst 0, 1) := by decide +kernel
theorem dX5_greatestPlay_3 : decode cX5_greatestPlay 3 = .ok (.istore_n 2, 1) := by decide +kernel
theorem dX5_greatestPlay_4 : decode cX5_greatestPlay 4 = .ok (.iload_n 2, 1) := by decide +kernel
theorem dX5_greatestPlay_5 : decode cX5_greatestPlay 5 = .ok (.aload_n 0, 1) := by decide +kernel
theorem dX5_greatestPlay_6 : decode cX5_greatestPlay 6 = .ok (.getfield 36, 3) := by decide +kernel
theorem dX5_greatestPlay_9 : decode cX5_greatestPlay 9 = .ok (.if_icmp .ge 34, 3) := by decide +kernel
theorem dX5_greatestPlay_12 : decode cX5_greatestPlay 12 = .ok (.aload_n 0, 1) := by decide +kernel
theorem dX5_greatestPlay_13 : decode cX5_greatestPlay 13 = .ok (.getfield 24, 3) := by decide +kernel
theorem dX5_greatestPlay_16 : decode cX5_greatestPlay 16 = .ok (.iload_n 2, 1) := by decide +kernel
theorem dX5_greatestPlay_17 : decode cX5_greatestPlay 17 = .ok (.iaload, 1) := by decide +kernel
theorem dX5_greatestPlay_18 : decode cX5_greatestPlay 18 = .ok (.iconst (-1), 1) := by decide +kernel
theorem dX5_greatestPlay_19 : decode cX5_greatestPlay 19 = .ok (.if_icmp .eq 18, 3) := by decide +kernel
theorem dX5_greatestPlay_22 : decode cX5_greatestPlay 22 = .ok (.aload_n 0, 1) := by decide +kernel
theorem dX5_greatestPlay_23 : decode cX5_greatestPlay 23 = .ok (.iload_n 2, 1) := by decide +kernel
theorem dX5_greatestPlay_24 : decode cX5_greatestPlay 24 = .ok (.invokevirtual 79, 3) := by decide +kernel
theorem dX5_greatestPlay_27 : decode cX5_greatestPlay 27 = .ok (.iload_n 1, 1) := by decide +kernel
theorem dX5_greatestPlay_28 : decode cX5_greatestPlay 28 = .ok (.if_icmp .le 9, 3) := by decide +kernel
theorem dX5_greatestPlay_31 : decode cX5_greatestPlay 31 = .ok (.aload_n 0, 1) := by decide +kernel
theorem dX5_greatestPlay_32 : decode cX5_greatestPlay 32 = .ok (.iload_n 2, 1) := by decide +kernel
theorem dX5_greatestPlay_33 : decode cX5_greatestPlay 33 = .ok (.invokevirtual 79, 3) := by decide +kernel
theorem dX5_greatestPlay_36 : decode cX5_greatestPlay 36 = .ok (.istore_n 1, 1) := by decide +kernel
theorem dX5_greatestPlay_37 : decode cX5_greatestPlay 37 = .ok (.iinc 2 1, 3) := by decide +kernel
theorem dX5_greatestPlay_40 : decode cX5_greatestPlay 40 = .ok (.goto (-36), 3) := by decide +kernel
theorem dX5_greatestPlay_43 : decode cX5_greatestPlay 43 = .ok (.iload_n 1, 1) := by decide +kernel
theorem dX5_greatestPlay_44 : decode cX5_greatestPlay 44 = .ok (.ireturn, 1) := by decide +kernel
theorem dX5_playOf_0 : decode cX5_playOf 0 = .ok (.aload_n 0, 1) := by decide +kernel
theorem dX5_playOf_1 : decode cX5_playOf 1 = .ok (.getfield 27, 3) := by decide +kernel
theorem dX5_playOf_4 : decode cX5_playOf 4 = .ok (.aload_n 0, 1) := by decide +kernel
theorem dX5_playOf_5 : decode cX5_playOf 5 = .ok (.getfield 24, 3) := by decide +kernel
theorem dX5_playOf_8 : decode cX5_playOf 8 = .ok (.iload_n 1, 1) := by decide +kernel
theorem dX5_playOf_9 : decode cX5_playOf 9 = .ok (.iaload, 1) := by decide +kernel
theorem dX5_playOf_10 : decode cX5_playOf 10 = .ok (.iaload, 1) := by decide +kernel
theorem dX5_playOf_11 : decode cX5_playOf 11 = .ok (.aload_n 0, 1) := by decide +kernel
theorem dX5_playOf_12 : decode cX5_playOf 12 = .ok (.getfield 9, 3) := by decide +kernel
theorem dX5_playOf_15 : decode cX5_playOf 15 = .ok (.iload_n 1, 1) := by decide +kernel
theorem dX5_playOf_16 : decode cX5_playOf 16 = .ok (.iaload, 1) := by decide +kernel
theorem dX5_playOf_17 : decode cX5_playOf 17 = .ok (.isub, 1) := by decide +kernel
theorem dX5_playOf_18 : decode cX5_playOf 18 = .ok (.ireturn, 1) := by decide +kernel
theorem dX5_ease_0 : decode cX5_ease 0 = .ok (.iconst (-1), 1) := by decide +kernel
theorem dX5_ease_1 : decode cX5_ease 1 = .ok (.istore_n 1, 1) := by decide +kernel
theorem dX5_ease_2 : decode cX5_ease 2 = .ok (.sipush 512, 3) := by decide +kernel
theorem dX5_ease_5 : decode cX5_ease 5 = .ok (.istore_n 2, 1) := by decide +kernel
theorem dX5_ease_6 : decode cX5_ease 6 = .ok (.iload_n 2, 1) := by decide +kernel
theorem dX5_ease_7 : decode cX5_ease 7 = .ok (.ifCond .le 35, 3) := by decide +kernel
theorem dX5_ease_10 : decode cX5_ease 10 = .ok (.iload_n 1, 1) := by decide +kernel
theorem dX5_ease_11 : decode cX5_ease 11 = .ok (.iload_n 2, 1) := by decide +kernel
theorem dX5_ease_12 : decode cX5_ease 12 = .ok (.iadd, 1) := by decide +kernel
theorem dX5_ease_13 : decode cX5_ease 13 = .ok (.istore_n 3, 1) := by decide +kernel
theorem dX5_ease_14 : decode cX5_ease 14 = .ok (.iload_n 3, 1) := by decide +kernel
theorem dX5_ease_15 : decode cX5_ease 15 = .ok (.sipush 1000, 3) := by decide +kernel
theorem dX5_ease_18 : decode cX5_ease 18 = .ok (.if_icmp .ge 17, 3) := by decide +kernel
theorem dX5_ease_21 : decode cX5_ease 21 = .ok (.aload_n 0, 1) := by decide +kernel
theorem dX5_ease_22 : decode cX5_ease 22 = .ok (.iload_n 3, 1) := by decide +kernel
theorem dX5_ease_23 : decode cX5_ease 23 = .ok (.invokevirtual 82, 3) := by decide +kernel
theorem dX5_ease_26 : decode cX5_ease 26 = .ok (.aload_n 0, 1) := by decide +kernel
theorem dX5_ease_27 : decode cX5_ease 27 = .ok (.getfield 36, 3) := by decide +kernel
theorem dX5_ease_30 : decode cX5_ease 30 = .ok (.if_icmp .ge 5, 3) := by decide +kernel
theorem dX5_ease_33 : decode cX5_ease 33 = .ok (.iload_n 3, 1) := by decide +kernel
theorem dX5_ease_34 : decode cX5_ease 34 = .ok (.istore_n 1, 1) := by decide +kernel
theorem dX5_ease_35 : decode cX5_ease 35 = .ok (.iload_n 2, 1) := by decide +kernel
theorem dX5_ease_36 : decode cX5_ease 36 = .ok (.iconst 2, 1) := by decide +kernel
theorem dX5_ease_37 : decode cX5_ease 37 = .ok (.idiv, 1) := by decide +kernel
theorem dX5_ease_38 : decode cX5_ease 38 = .ok (.istore_n 2, 1) := by decide +kernel
theorem dX5_ease_39 : decode cX5_ease 39 = .ok (.goto (-33), 3) := by decide +kernel
theorem dX5_ease_42 : decode cX5_ease 42 = .ok (.iload_n 1, 1) := by decide +kernel
theorem dX5_ease_43 : decode cX5_ease 43 = .ok (.iconst 1, 1) := by decide +kernel
theorem dX5_ease_44 : decode cX5_ease 44 = .ok (.iadd, 1) := by decide +kernel
theorem dX5_ease_45 : decode cX5_ease 45 = .ok (.sipush 1000, 3) := by decide +kernel
theorem dX5_ease_48 : decode cX5_ease 48 = .ok (.if_icmp .ge 9, 3) := by decide +kernel
theorem dX5_ease_51 : decode cX5_ease 51 = .ok (.iload_n 1, 1) := by decide +kernel
theorem dX5_ease_52 : decode cX5_ease 52 = .ok (.iconst 1, 1) := by decide +kernel
theorem dX5_ease_53 : decode cX5_ease 53 = .ok (.iadd, 1) := by decide +kernel
theorem dX5_ease_54 : decode cX5_ease 54 = .ok (.goto 4, 3) := by decide +kernel
theorem dX5_ease_57 : decode cX5_ease 57 = .ok (.iconst (-1), 1) := by decide +kernel
theorem dX5_ease_58 : decode cX5_ease 58 = .ok (.ireturn, 1) := by decide +kernel
theorem dX5_sizeOfOneMore_0 : decode cX5_sizeOfOneMore 0 = .ok (.aload_n 0, 1) := by decide +kernel
theorem dX5_sizeOfOneMore_1 : decode cX5_sizeOfOneMore 1 = .ok (.iconst 0, 1) := by decide +kernel
theorem dX5_sizeOfOneMore_2 : decode cX5_sizeOfOneMore 2 = .ok (.invokevirtual 82, 3) := by decide +kernel
theorem dX5_sizeOfOneMore_5 : decode cX5_sizeOfOneMore 5 = .ok (.istore_n 1, 1) := by decide +kernel
theorem dX5_sizeOfOneMore_6 : decode cX5_sizeOfOneMore 6 = .ok (.iconst (-1), 1) := by decide +kernel
theorem dX5_sizeOfOneMore_7 : decode cX5_sizeOfOneMore 7 = .ok (.istore_n 2, 1) := by decide +kernel
theorem dX5_sizeOfOneMore_8 : decode cX5_sizeOfOneMore 8 = .ok (.iload_n 1, 1) := by decide +kernel
theorem dX5_sizeOfOneMore_9 : decode cX5_sizeOfOneMore 9 = .ok (.aload_n 0, 1) := by decide +kernel
theorem dX5_sizeOfOneMore_10 : decode cX5_sizeOfOneMore 10 = .ok (.getfield 36, 3) := by decide +kernel
theorem dX5_sizeOfOneMore_13 : decode cX5_sizeOfOneMore 13 = .ok (.if_icmp .ne 5, 3) := by decide +kernel
theorem dX5_sizeOfOneMore_16 : decode cX5_sizeOfOneMore 16 = .ok (.iconst (-1), 1) := by decide +kernel
theorem dX5_sizeOfOneMore_17 : decode cX5_sizeOfOneMore 17 = .ok (.ireturn, 1) := by decide +kernel
theorem dX5_sizeOfOneMore_18 : decode cX5_sizeOfOneMore 18 = .ok (.iconst 0, 1) := by decide +kernel
theorem dX5_sizeOfOneMore_19 : decode cX5_sizeOfOneMore 19 = .ok (.istore_n 3, 1) := by decide +kernel
theorem dX5_sizeOfOneMore_20 : decode cX5_sizeOfOneMore 20 = .ok (.iload_n 3, 1) := by decide +kernel
theorem dX5_sizeOfOneMore_21 : decode cX5_sizeOfOneMore 21 = .ok (.aload_n 0, 1) := by decide +kernel
theorem dX5_sizeOfOneMore_22 : decode cX5_sizeOfOneMore 22 = .ok (.getfield 36, 3) := by decide +kernel
theorem dX5_sizeOfOneMore_25 : decode cX5_sizeOfOneMore 25 = .ok (.if_icmp .ge 69, 3) := by decide +kernel
theorem dX5_sizeOfOneMore_28 : decode cX5_sizeOfOneMore 28 = .ok (.aload_n 0, 1) := by decide +kernel
theorem dX5_sizeOfOneMore_29 : decode cX5_sizeOfOneMore 29 = .ok (.getfield 15, 3) := by decide +kernel
theorem dX5_sizeOfOneMore_32 : decode cX5_sizeOfOneMore 32 = .ok (.iload_n 3, 1) := by decide +kernel
theorem dX5_sizeOfOneMore_33 : decode cX5_sizeOfOneMore 33 = .ok (.iaload, 1) := by decide +kernel
theorem dX5_sizeOfOneMore_34 : decode cX5_sizeOfOneMore 34 = .ok (.sipush 10000, 3) := by decide +kernel
theorem dX5_sizeOfOneMore_37 : decode cX5_sizeOfOneMore 37 = .ok (.if_icmp .ge 22, 3) := by decide +kernel
theorem dX5_sizeOfOneMore_40 : decode cX5_sizeOfOneMore 40 = .ok (.iload_n 2, 1) := by decide +kernel
theorem dX5_sizeOfOneMore_41 : decode cX5_sizeOfOneMore 41 = .ok (.iconst (-1), 1) := by decide +kernel
theorem dX5_sizeOfOneMore_42 : decode cX5_sizeOfOneMore 42 = .ok (.if_icmp .eq 13, 3) := by decide +kernel
theorem dX5_sizeOfOneMore_45 : decode cX5_sizeOfOneMore 45 = .ok (.aload_n 0, 1) := by decide +kernel
theorem dX5_sizeOfOneMore_46 : decode cX5_sizeOfOneMore 46 = .ok (.getfield 15, 3) := by decide +kernel
theorem dX5_sizeOfOneMore_49 : decode cX5_sizeOfOneMore 49 = .ok (.iload_n 3, 1) := by decide +kernel
theorem dX5_sizeOfOneMore_50 : decode cX5_sizeOfOneMore 50 = .ok (.iaload, 1) := by decide +kernel
theorem dX5_sizeOfOneMore_51 : decode cX5_sizeOfOneMore 51 = .ok (.iload_n 2, 1) := by decide +kernel
theorem dX5_sizeOfOneMore_52 : decode cX5_sizeOfOneMore 52 = .ok (.if_icmp .ge 7, 3) := by decide +kernel
theorem dX5_sizeOfOneMore_55 : decode cX5_sizeOfOneMore 55 = .ok (.iconst 1, 1) := by decide +kernel
theorem dX5_sizeOfOneMore_56 : decode cX5_sizeOfOneMore 56 = .ok (.goto 4, 3) := by decide +kernel
theorem dX5_sizeOfOneMore_59 : decode cX5_sizeOfOneMore 59 = .ok (.iconst 0, 1) := by decide +kernel
theorem dX5_sizeOfOneMore_60 : decode cX5_sizeOfOneMore 60 = .ok (.istore 4, 2) := by decide +kernel
theorem dX5_sizeOfOneMore_62 : decode cX5_sizeOfOneMore 62 = .ok (.iload 4, 2) := by decide +kernel
theorem dX5_sizeOfOneMore_64 : decode cX5_sizeOfOneMore 64 = .ok (.ifCond .eq 24, 3) := by decide +kernel
theorem dX5_sizeOfOneMore_67 : decode cX5_sizeOfOneMore 67 = .ok (.aload_n 0, 1) := by decide +kernel
theorem dX5_sizeOfOneMore_68 : decode cX5_sizeOfOneMore 68 = .ok (.aload_n 0, 1) := by decide +kernel
theorem dX5_sizeOfOneMore_69 : decode cX5_sizeOfOneMore 69 = .ok (.getfield 15, 3) := by decide +kernel
theorem dX5_sizeOfOneMore_72 : decode cX5_sizeOfOneMore 72 = .ok (.iload_n 3, 1) := by decide +kernel
theorem dX5_sizeOfOneMore_73 : decode cX5_sizeOfOneMore 73 = .ok (.iaload, 1) := by decide +kernel
theorem dX5_sizeOfOneMore_74 : decode cX5_sizeOfOneMore 74 = .ok (.invokevirtual 85, 3) := by decide +kernel
theorem dX5_sizeOfOneMore_77 : decode cX5_sizeOfOneMore 77 = .ok (.iload_n 1, 1) := by decide +kernel
theorem dX5_sizeOfOneMore_78 : decode cX5_sizeOfOneMore 78 = .ok (.if_icmp .le 10, 3) := by decide +kernel
theorem dX5_sizeOfOneMore_81 : decode cX5_sizeOfOneMore 81 = .ok (.aload_n 0, 1) := by decide +kernel
theorem dX5_sizeOfOneMore_82 : decode cX5_sizeOfOneMore 82 = .ok (.getfield 15, 3) := by decide +kernel
theorem dX5_sizeOfOneMore_85 : decode cX5_sizeOfOneMore 85 = .ok (.iload_n 3, 1) := by decide +kernel
theorem dX5_sizeOfOneMore_86 : decode cX5_sizeOfOneMore 86 = .ok (.iaload, 1) := by decide +kernel
theorem dX5_sizeOfOneMore_87 : decode cX5_sizeOfOneMore 87 = .ok (.istore_n 2, 1) := by decide +kernel
theorem dX5_sizeOfOneMore_88 : decode cX5_sizeOfOneMore 88 = .ok (.iinc 3 1, 3) := by decide +kernel
theorem dX5_sizeOfOneMore_91 : decode cX5_sizeOfOneMore 91 = .ok (.goto (-71), 3) := by decide +kernel
theorem dX5_sizeOfOneMore_94 : decode cX5_sizeOfOneMore 94 = .ok (.iload_n 2, 1) := by decide +kernel
theorem dX5_sizeOfOneMore_95 : decode cX5_sizeOfOneMore 95 = .ok (.ireturn, 1) := by decide +kernel
theorem dX5_pairsWith_0 : decode cX5_pairsWith 0 = .ok (.aload_n 0, 1) := by decide +kernel
theorem dX5_pairsWith_1 : decode cX5_pairsWith 1 = .ok (.iload_n 1, 1) := by decide +kernel
theorem dX5_pairsWith_2 : decode cX5_pairsWith 2 = .ok (.invokevirtual 67, 3) := by decide +kernel
theorem dX5_pairsWith_5 : decode cX5_pairsWith 5 = .ok (.aload_n 0, 1) := by decide +kernel
theorem dX5_pairsWith_6 : decode cX5_pairsWith 6 = .ok (.iconst 0, 1) := by decide +kernel
theorem dX5_pairsWith_7 : decode cX5_pairsWith 7 = .ok (.invokevirtual 82, 3) := by decide +kernel
theorem dX5_pairsWith_10 : decode cX5_pairsWith 10 = .ok (.istore_n 2, 1) := by decide +kernel
theorem dX5_pairsWith_11 : decode cX5_pairsWith 11 = .ok (.aload_n 0, 1) := by decide +kernel
theorem dX5_pairsWith_12 : decode cX5_pairsWith 12 = .ok (.invokevirtual 88, 3) := by decide +kernel
theorem dX5_pairsWith_15 : decode cX5_pairsWith 15 = .ok (.iload_n 2, 1) := by decide +kernel
theorem dX5_pairsWith_16 : decode cX5_pairsWith 16 = .ok (.ireturn, 1) := by decide +kernel
theorem dX6_init_0 : decode cX6_init 0 = .ok (.aload_n 0, 1) := by decide +kernel
theorem dX6_init_1 : decode cX6_init 1 = .ok (.invokespecial 3, 3) := by decide +kernel
theorem dX6_init_4 : decode cX6_init 4 = .ok (.aload_n 0, 1) := by decide +kernel
theorem dX6_init_5 : decode cX6_init 5 = .ok (.bipush 24, 2) := by decide +kernel
theorem dX6_init_7 : decode cX6_init 7 = .ok (.newarray .int, 2) := by decide +kernel
theorem dX6_init_9 : decode cX6_init 9 = .ok (.putfield 9, 3) := by decide +kernel
theorem dX6_init_12 : decode cX6_init 12 = .ok (.aload_n 0, 1) := by decide +kernel
theorem dX6_init_13 : decode cX6_init 13 = .ok (.bipush 24, 2) := by decide +kernel
theorem dX6_init_15 : decode cX6_init 15 = .ok (.newarray .int, 2) := by decide +kernel
theorem dX6_init_17 : decode cX6_init 17 = .ok (.putfield 15, 3) := by decide +kernel
theorem dX6_init_20 : decode cX6_init 20 = .ok (.aload_n 0, 1) := by decide +kernel
theorem dX6_init_21 : decode cX6_init 21 = .ok (.iconst 4, 1) := by decide +kernel
theorem dX6_init_22 : decode cX6_init 22 = .ok (.newarray .int, 2) := by decide +kernel
theorem dX6_init_24 : decode cX6_init 24 = .ok (.putfield 18, 3) := by decide +kernel
theorem dX6_init_27 : decode cX6_init 27 = .ok (.aload_n 0, 1) := by decide +kernel
theorem dX6_init_28 : decode cX6_init 28 = .ok (.iconst 4, 1) := by decide +kernel
theorem dX6_init_29 : decode cX6_init 29 = .ok (.newarray .int, 2) := by decide +kernel
theorem dX6_init_31 : decode cX6_init 31 = .ok (.putfield 21, 3) := by decide +kernel
theorem dX6_init_34 : decode cX6_init 34 = .ok (.aload_n 0, 1) := by decide +kernel
theorem dX6_init_35 : decode cX6_init 35 = .ok (.bipush 48, 2) := by decide +kernel
theorem dX6_init_37 : decode cX6_init 37 = .ok (.newarray .int, 2) := by decide +kernel
theorem dX6_init_39 : decode cX6_init 39 = .ok (.putfield 24, 3) := by decide +kernel
theorem dX6_init_42 : decode cX6_init 42 = .ok (.aload_n 0, 1) := by decide +kernel
theorem dX6_init_43 : decode cX6_init 43 = .ok (.bipush 48, 2) := by decide +kernel
theorem dX6_init_45 : decode cX6_init 45 = .ok (.newarray .int, 2) := by decide +kernel
theorem dX6_init_47 : decode cX6_init 47 = .ok (.putfield 27, 3) := by decide +kernel
theorem dX6_init_50 : decode cX6_init 50 = .ok (.aload_n 0, 1) := by decide +kernel
theorem dX6_init_51 : decode cX6_init 51 = .ok (.iconst 0, 1) := by decide +kernel
theorem dX6_init_52 : decode cX6_init 52 = .ok (.putfield 30, 3) := by decide +kernel
theorem dX6_init_55 : decode cX6_init 55 = .ok (.aload_n 0, 1) := by decide +kernel
theorem dX6_init_56 : decode cX6_init 56 = .ok (.iconst 0, 1) := by decide +kernel
theorem dX6_init_57 : decode cX6_init 57 = .ok (.putfield 34, 3) := by decide +kernel
theorem dX6_init_60 : decode cX6_init 60 = .ok (.aload_n 0, 1) := by decide +kernel
theorem dX6_init_61 : decode cX6_init 61 = .ok (.iconst 0, 1) := by decide +kernel
theorem dX6_init_62 : decode cX6_init 62 = .ok (.putfield 37, 3) := by decide +kernel
theorem dX6_init_65 : decode cX6_init 65 = .ok (.return_, 1) := by decide +kernel
theorem dX6_copyFrom_0 : decode cX6_copyFrom 0 = .ok (.aload_n 0, 1) := by decide +kernel
theorem dX6_copyFrom_1 : decode cX6_copyFrom 1 = .ok (.aload_n 1, 1) := by decide +kernel
theorem dX6_copyFrom_2 : decode cX6_copyFrom 2 = .ok (.getfield 30, 3) := by decide +kernel
theorem dX6_copyFrom_5 : decode cX6_copyFrom 5 = .ok (.putfield 30, 3) := by decide +kernel
theorem dX6_copyFrom_8 : decode cX6_copyFrom 8 = .ok (.aload_n 0, 1) := by decide +kernel
theorem dX6_copyFrom_9 : decode cX6_copyFrom 9 = .ok (.aload_n 1, 1) := by decide +kernel
theorem dX6_copyFrom_10 : decode cX6_copyFrom 10 = .ok (.getfield 34, 3) := by decide +kernel
theorem dX6_copyFrom_13 : decode cX6_copyFrom 13 = .ok (.putfield 34, 3) := by decide +kernel
theorem dX6_copyFrom_16 : decode cX6_copyFrom 16 = .ok (.aload_n 0, 1) := by decide +kernel
theorem dX6_copyFrom_17 : decode cX6_copyFrom 17 = .ok (.aload_n 1, 1) := by decide +kernel
theorem dX6_copyFrom_18 : decode cX6_copyFrom 18 = .ok (.getfield 37, 3) := by decide +kernel
theorem dX6_copyFrom_21 : decode cX6_copyFrom 21 = .ok (.putfield 37, 3) := by decide +kernel
theorem dX6_copyFrom_24 : decode cX6_copyFrom 24 = .ok (.aload_n 1, 1) := by decide +kernel
theorem dX6_copyFrom_25 : decode cX6_copyFrom 25 = .ok (.getfield 9, 3) := by decide +kernel
theorem dX6_copyFrom_28 : decode cX6_copyFrom 28 = .ok (.iconst 0, 1) := by decide +kernel
theorem dX6_copyFrom_29 : decode cX6_copyFrom 29 = .ok (.aload_n 0, 1) := by decide +kernel
theorem dX6_copyFrom_30 : decode cX6_copyFrom 30 = .ok (.getfield 9, 3) := by decide +kernel
theorem dX6_copyFrom_33 : decode cX6_copyFrom 33 = .ok (.iconst 0, 1) := by decide +kernel
theorem dX6_copyFrom_34 : decode cX6_copyFrom 34 = .ok (.aload_n 0, 1) := by decide +kernel
theorem dX6_copyFrom_35 : decode cX6_copyFrom 35 = .ok (.getfield 30, 3) := by decide +kernel
theorem dX6_copyFrom_38 : decode cX6_copyFrom 38 = .ok (.invokestatic 40, 3) := by decide +kernel
theorem dX6_copyFrom_41 : decode cX6_copyFrom 41 = .ok (.aload_n 1, 1) := by decide +kernel
theorem dX6_copyFrom_42 : decode cX6_copyFrom 42 = .ok (.getfield 15, 3) := by decide +kernel
theorem dX6_copyFrom_45 : decode cX6_copyFrom 45 = .ok (.iconst 0, 1) := by decide +kernel
theorem dX6_copyFrom_46 : decode cX6_copyFrom 46 = .ok (.aload_n 0, 1) := by decide +kernel
theorem dX6_copyFrom_47 : decode cX6_copyFrom 47 = .ok (.getfield 15, 3) := by decide +kernel
theorem dX6_copyFrom_50 : decode cX6_copyFrom 50 = .ok (.iconst 0, 1) := by decide +kernel
theorem dX6_copyFrom_51 : decode cX6_copyFrom 51 = .ok (.aload_n 0, 1) := by decide +kernel
theorem dX6_copyFrom_52 : decode cX6_copyFrom 52 = .ok (.getfield 34, 3) := by decide +kernel
theorem dX6_copyFrom_55 : decode cX6_copyFrom 55 = .ok (.invokestatic 40, 3) := by decide +kernel
theorem dX6_copyFrom_58 : decode cX6_copyFrom 58 = .ok (.aload_n 1, 1) := by decide +kernel
theorem dX6_copyFrom_59 : decode cX6_copyFrom 59 = .ok (.getfield 18, 3) := by decide +kernel
theorem dX6_copyFrom_62 : decode cX6_copyFrom 62 = .ok (.iconst 0, 1) := by decide +kernel
theorem dX6_copyFrom_63 : decode cX6_copyFrom 63 = .ok (.aload_n 0, 1) := by decide +kernel
theorem dX6_copyFrom_64 : decode cX6_copyFrom 64 = .ok (.getfield 18, 3) := by decide +kernel
theorem dX6_copyFrom_67 : decode cX6_copyFrom 67 = .ok (.iconst 0, 1) := by decide +kernel
theorem dX6_copyFrom_68 : decode cX6_copyFrom 68 = .ok (.iconst 4, 1) := by decide +kernel
theorem dX6_copyFrom_69 : decode cX6_copyFrom 69 = .ok (.invokestatic 40, 3) := by decide +kernel
theorem dX6_copyFrom_72 : decode cX6_copyFrom 72 = .ok (.aload_n 1, 1) := by decide +kernel
theorem dX6_copyFrom_73 : decode cX6_copyFrom 73 = .ok (.getfield 21, 3) := by decide +kernel
theorem dX6_copyFrom_76 : decode cX6_copyFrom 76 = .ok (.iconst 0, 1) := by decide +kernel
theorem dX6_copyFrom_77 : decode cX6_copyFrom 77 = .ok (.aload_n 0, 1) := by decide +kernel
theorem dX6_copyFrom_78 : decode cX6_copyFrom 78 = .ok (.getfield 21, 3) := by decide +kernel
theorem dX6_copyFrom_81 : decode cX6_copyFrom 81 = .ok (.iconst 0, 1) := by decide +kernel
theorem dX6_copyFrom_82 : decode cX6_copyFrom 82 = .ok (.iconst 4, 1) := by decide +kernel
theorem dX6_copyFrom_83 : decode cX6_copyFrom 83 = .ok (.invokestatic 40, 3) := by decide +kernel
theorem dX6_copyFrom_86 : decode cX6_copyFrom 86 = .ok (.aload_n 1, 1) := by decide +kernel
theorem dX6_copyFrom_87 : decode cX6_copyFrom 87 = .ok (.getfield 24, 3) := by decide +kernel
theorem dX6_copyFrom_90 : decode cX6_copyFrom 90 = .ok (.iconst 0, 1) := by decide +kernel
theorem dX6_copyFrom_91 : decode cX6_copyFrom 91 = .ok (.aload_n 0, 1) := by decide +kernel
theorem dX6_copyFrom_92 : decode cX6_copyFrom 92 = .ok (.getfield 24, 3) := by decide +kernel
theorem dX6_copyFrom_95 : decode cX6_copyFrom 95 = .ok (.iconst 0, 1) := by decide +kernel
theorem dX6_copyFrom_96 : decode cX6_copyFrom 96 = .ok (.aload_n 0, 1) := by decide +kernel
theorem dX6_copyFrom_97 : decode cX6_copyFrom 97 = .ok (.getfield 37, 3) := by decide +kernel
theorem dX6_copyFrom_100 : decode cX6_copyFrom 100 = .ok (.invokestatic 40, 3) := by decide +kernel
theorem dX6_copyFrom_103 : decode cX6_copyFrom 103 = .ok (.aload_n 1, 1) := by decide +kernel
theorem dX6_copyFrom_104 : decode cX6_copyFrom 104 = .ok (.getfield 27, 3) := by decide +kernel
theorem dX6_copyFrom_107 : decode cX6_copyFrom 107 = .ok (.iconst 0, 1) := by decide +kernel
theorem dX6_copyFrom_108 : decode cX6_copyFrom 108 = .ok (.aload_n 0, 1) := by decide +kernel
theorem dX6_copyFrom_109 : decode cX6_copyFrom 109 = .ok (.getfield 27, 3) := by decide +kernel
theorem dX6_copyFrom_112 : decode cX6_copyFrom 112 = .ok (.iconst 0, 1) := by decide +kernel
theorem dX6_copyFrom_113 : decode cX6_copyFrom 113 = .ok (.aload_n 0, 1) := by decide +kernel
theorem dX6_copyFrom_114 : decode cX6_copyFrom 114 = .ok (.getfield 37, 3) := by decide +kernel
theorem dX6_copyFrom_117 : decode cX6_copyFrom 117 = .ok (.invokestatic 40, 3) := by decide +kernel
theorem dX6_copyFrom_120 : decode cX6_copyFrom 120 = .ok (.return_, 1) := by decide +kernel
theorem dX6_parts_0 : decode cX6_parts 0 = .ok (.aload_n 0, 1) := by decide +kernel
theorem dX6_parts_1 : decode cX6_parts 1 = .ok (.getfield 30, 3) := by decide +kernel
theorem dX6_parts_4 : decode cX6_parts 4 = .ok (.aload_n 0, 1) := by decide +kernel
theorem dX6_parts_5 : decode cX6_parts 5 = .ok (.getfield 34, 3) := by decide +kernel
theorem dX6_parts_8 : decode cX6_parts 8 = .ok (.iadd, 1) := by decide +kernel
theorem dX6_parts_9 : decode cX6_parts 9 = .ok (.ireturn, 1) := by decide +kernel
theorem dX6_sortOf_0 : decode cX6_sortOf 0 = .ok (.iconst 0, 1) := by decide +kernel
theorem dX6_sortOf_1 : decode cX6_sortOf 1 = .ok (.istore_n 2, 1) := by decide +kernel
theorem dX6_sortOf_2 : decode cX6_sortOf 2 = .ok (.iload_n 2, 1) := by decide +kernel
theorem dX6_sortOf_3 : decode cX6_sortOf 3 = .ok (.aload_n 0, 1) := by decide +kernel
theorem dX6_sortOf_4 : decode cX6_sortOf 4 = .ok (.getfield 37, 3) := by decide +kernel
theorem dX6_sortOf_7 : decode cX6_sortOf 7 = .ok (.if_icmp .ge 21, 3) := by decide +kernel
theorem dX6_sortOf_10 : decode cX6_sortOf 10 = .ok (.aload_n 0, 1) := by decide +kernel
theorem dX6_sortOf_11 : decode cX6_sortOf 11 = .ok (.getfield 24, 3) := by decide +kernel
theorem dX6_sortOf_14 : decode cX6_sortOf 14 = .ok (.iload_n 2, 1) := by decide +kernel
theorem dX6_sortOf_15 : decode cX6_sortOf 15 = .ok (.iaload, 1) := by decide +kernel
theorem dX6_sortOf_16 : decode cX6_sortOf 16 = .ok (.iload_n 1, 1) := by decide +kernel
theorem dX6_sortOf_17 : decode cX6_sortOf 17 = .ok (.if_icmp .ne 5, 3) := by decide +kernel
theorem dX6_sortOf_20 : decode cX6_sortOf 20 = .ok (.iload_n 2, 1) := by decide +kernel
theorem dX6_sortOf_21 : decode cX6_sortOf 21 = .ok (.ireturn, 1) := by decide +kernel
theorem dX6_sortOf_22 : decode cX6_sortOf 22 = .ok (.iinc 2 1, 3) := by decide +kernel
theorem dX6_sortOf_25 : decode cX6_sortOf 25 = .ok (.goto (-23), 3) := by decide +kernel
theorem dX6_sortOf_28 : decode cX6_sortOf 28 = .ok (.iconst (-1), 1) := by decide +kernel
theorem dX6_sortOf_29 : decode cX6_sortOf 29 = .ok (.ireturn, 1) := by decide +kernel
theorem dX6_hasRoom_0 : decode cX6_hasRoom 0 = .ok (.iload_n 1, 1) := by decide +kernel
theorem dX6_hasRoom_1 : decode cX6_hasRoom 1 = .ok (.invokestatic 46, 3) := by decide +kernel
theorem dX6_hasRoom_4 : decode cX6_hasRoom 4 = .ok (.iconst 4, 1) := by decide +kernel
theorem dX6_hasRoom_5 : decode cX6_hasRoom 5 = .ok (.if_icmp .ne 10, 3) := by decide +kernel
theorem dX6_hasRoom_8 : decode cX6_hasRoom 8 = .ok (.aload_n 0, 1) := by decide +kernel
theorem dX6_hasRoom_9 : decode cX6_hasRoom 9 = .ok (.getfield 34, 3) := by decide +kernel
theorem dX6_hasRoom_12 : decode cX6_hasRoom 12 = .ok (.goto 7, 3) := by decide +kernel
theorem dX6_hasRoom_15 : decode cX6_hasRoom 15 = .ok (.aload_n 0, 1) := by decide +kernel
theorem dX6_hasRoom_16 : decode cX6_hasRoom 16 = .ok (.getfield 30, 3) := by decide +kernel
theorem dX6_hasRoom_19 : decode cX6_hasRoom 19 = .ok (.istore_n 2, 1) := by decide +kernel
theorem dX6_hasRoom_20 : decode cX6_hasRoom 20 = .ok (.iload_n 2, 1) := by decide +kernel
theorem dX6_hasRoom_21 : decode cX6_hasRoom 21 = .ok (.bipush 24, 2) := by decide +kernel
theorem dX6_hasRoom_23 : decode cX6_hasRoom 23 = .ok (.if_icmp .ge 25, 3) := by decide +kernel
theorem dX6_hasRoom_26 : decode cX6_hasRoom 26 = .ok (.aload_n 0, 1) := by decide +kernel
theorem dX6_hasRoom_27 : decode cX6_hasRoom 27 = .ok (.getfield 37, 3) := by decide +kernel
theorem dX6_hasRoom_30 : decode cX6_hasRoom 30 = .ok (.bipush 48, 2) := by decide +kernel
theorem dX6_hasRoom_32 : decode cX6_hasRoom 32 = .ok (.if_icmp .lt 12, 3) := by decide +kernel
theorem dX6_hasRoom_35 : decode cX6_hasRoom 35 = .ok (.aload_n 0, 1) := by decide +kernel
theorem dX6_hasRoom_36 : decode cX6_hasRoom 36 = .ok (.iload_n 1, 1) := by decide +kernel
theorem dX6_hasRoom_37 : decode cX6_hasRoom 37 = .ok (.invokevirtual 50, 3) := by decide +kernel
theorem dX6_hasRoom_40 : decode cX6_hasRoom 40 = .ok (.iconst (-1), 1) := by decide +kernel
theorem dX6_hasRoom_41 : decode cX6_hasRoom 41 = .ok (.if_icmp .eq 7, 3) := by decide +kernel
theorem dX6_hasRoom_44 : decode cX6_hasRoom 44 = .ok (.iconst 1, 1) := by decide +kernel
theorem dX6_hasRoom_45 : decode cX6_hasRoom 45 = .ok (.goto 4, 3) := by decide +kernel
theorem dX6_hasRoom_48 : decode cX6_hasRoom 48 = .ok (.iconst 0, 1) := by decide +kernel
theorem dX6_hasRoom_49 : decode cX6_hasRoom 49 = .ok (.ireturn, 1) := by decide +kernel
theorem dX6_put_0 : decode cX6_put 0 = .ok (.aload_n 0, 1) := by decide +kernel
theorem dX6_put_1 : decode cX6_put 1 = .ok (.iload_n 1, 1) := by decide +kernel
theorem dX6_put_2 : decode cX6_put 2 = .ok (.invokevirtual 53, 3) := by decide +kernel
theorem dX6_put_5 : decode cX6_put 5 = .ok (.ifCond .ne 6, 3) := by decide +kernel
theorem dX6_put_8 : decode cX6_put 8 = .ok (.ldc 57, 2) := by decide +kernel
theorem dX6_put_10 : decode cX6_put 10 = .ok (.ireturn, 1) := by decide +kernel
theorem dX6_put_11 : decode cX6_put 11 = .ok (.aload_n 0, 1) := by decide +kernel
theorem dX6_put_12 : decode cX6_put 12 = .ok (.iload_n 1, 1) := by decide +kernel
theorem dX6_put_13 : decode cX6_put 13 = .ok (.invokevirtual 58, 3) := by decide +kernel
theorem dX6_put_16 : decode cX6_put 16 = .ok (.iload_n 1, 1) := by decide +kernel
theorem dX6_put_17 : decode cX6_put 17 = .ok (.invokestatic 46, 3) := by decide +kernel
theorem dX6_put_20 : decode cX6_put 20 = .ok (.iconst 4, 1) := by decide +kernel
theorem dX6_put_21 : decode cX6_put 21 = .ok (.if_icmp .ne 25, 3) := by decide +kernel
theorem dX6_put_24 : decode cX6_put 24 = .ok (.aload_n 0, 1) := by decide +kernel
theorem dX6_put_25 : decode cX6_put 25 = .ok (.getfield 15, 3) := by decide +kernel
theorem dX6_put_28 : decode cX6_put 28 = .ok (.aload_n 0, 1) := by decide +kernel
theorem dX6_put_29 : decode cX6_put 29 = .ok (.getfield 34, 3) := by decide +kernel
theorem dX6_put_32 : decode cX6_put 32 = .ok (.iload_n 1, 1) := by decide +kernel
theorem dX6_put_33 : decode cX6_put 33 = .ok (.iastore, 1) := by decide +kernel
theorem dX6_put_34 : decode cX6_put 34 = .ok (.aload_n 0, 1) := by decide +kernel
theorem dX6_put_35 : decode cX6_put 35 = .ok (.dup, 1) := by decide +kernel
theorem dX6_put_36 : decode cX6_put 36 = .ok (.getfield 34, 3) := by decide +kernel
theorem dX6_put_39 : decode cX6_put 39 = .ok (.dup_x1, 1) := by decide +kernel
theorem dX6_put_40 : decode cX6_put 40 = .ok (.iconst 1, 1) := by decide +kernel
theorem dX6_put_41 : decode cX6_put 41 = .ok (.iadd, 1) := by decide +kernel
theorem dX6_put_42 : decode cX6_put 42 = .ok (.putfield 34, 3) := by decide +kernel
theorem dX6_put_45 : decode cX6_put 45 = .ok (.ireturn, 1) := by decide +kernel
theorem dX6_put_46 : decode cX6_put 46 = .ok (.aload_n 0, 1) := by decide +kernel
theorem dX6_put_47 : decode cX6_put 47 = .ok (.getfield 9, 3) := by decide +kernel
theorem dX6_put_50 : decode cX6_put 50 = .ok (.aload_n 0, 1) := by decide +kernel
theorem dX6_put_51 : decode cX6_put 51 = .ok (.getfield 30, 3) := by decide +kernel
theorem dX6_put_54 : decode cX6_put 54 = .ok (.iload_n 1, 1) := by decide +kernel
theorem dX6_put_55 : decode cX6_put 55 = .ok (.iastore, 1) := by decide +kernel
theorem dX6_put_56 : decode cX6_put 56 = .ok (.aload_n 0, 1) := by decide +kernel
theorem dX6_put_57 : decode cX6_put 57 = .ok (.dup, 1) := by decide +kernel
theorem dX6_put_58 : decode cX6_put 58 = .ok (.getfield 30, 3) := by decide +kernel
theorem dX6_put_61 : decode cX6_put 61 = .ok (.dup_x1, 1) := by decide +kernel
theorem dX6_put_62 : decode cX6_put 62 = .ok (.iconst 1, 1) := by decide +kernel
theorem dX6_put_63 : decode cX6_put 63 = .ok (.iadd, 1) := by decide +kernel
theorem dX6_put_64 : decode cX6_put 64 = .ok (.putfield 30, 3) := by decide +kernel
theorem dX6_put_67 : decode cX6_put 67 = .ok (.ireturn, 1) := by decide +kernel
theorem dX6_countInSort_0 : decode cX6_countInSort 0 = .ok (.aload_n 0, 1) := by decide +kernel
theorem dX6_countInSort_1 : decode cX6_countInSort 1 = .ok (.iload_n 1, 1) := by decide +kernel
theorem dX6_countInSort_2 : decode cX6_countInSort 2 = .ok (.invokevirtual 50, 3) := by decide +kernel
theorem dX6_countInSort_5 : decode cX6_countInSort 5 = .ok (.istore_n 2, 1) := by decide +kernel
theorem dX6_countInSort_6 : decode cX6_countInSort 6 = .ok (.iload_n 2, 1) := by decide +kernel
theorem dX6_countInSort_7 : decode cX6_countInSort 7 = .ok (.iconst (-1), 1) := by decide +kernel
theorem dX6_countInSort_8 : decode cX6_countInSort 8 = .ok (.if_icmp .eq 16, 3) := by decide +kernel
theorem dX6_countInSort_11 : decode cX6_countInSort 11 = .ok (.aload_n 0, 1) := by decide +kernel
theorem dX6_countInSort_12 : decode cX6_countInSort 12 = .ok (.getfield 27, 3) := by decide +kernel
theorem dX6_countInSort_15 : decode cX6_countInSort 15 = .ok (.iload_n 2, 1) := by decide +kernel
theorem dX6_countInSort_16 : decode cX6_countInSort 16 = .ok (.dup2, 1) := by decide +kernel
theorem dX6_countInSort_17 : decode cX6_countInSort 17 = .ok (.iaload, 1) := by decide +kernel
theorem dX6_countInSort_18 : decode cX6_countInSort 18 = .ok (.iconst 1, 1) := by decide +kernel
theorem dX6_countInSort_19 : decode cX6_countInSort 19 = .ok (.iadd, 1) := by decide +kernel
theorem dX6_countInSort_20 : decode cX6_countInSort 20 = .ok (.iastore, 1) := by decide +kernel
theorem dX6_countInSort_21 : decode cX6_countInSort 21 = .ok (.goto 42, 3) := by decide +kernel
theorem dX6_countInSort_24 : decode cX6_countInSort 24 = .ok (.aload_n 0, 1) := by decide +kernel
theorem dX6_countInSort_25 : decode cX6_countInSort 25 = .ok (.getfield 37, 3) := by decide +kernel
theorem dX6_countInSort_28 : decode cX6_countInSort 28 = .ok (.bipush 48, 2) := by decide +kernel
theorem dX6_countInSort_30 : decode cX6_countInSort 30 = .ok (.if_icmp .ge 33, 3) := by decide +kernel
theorem dX6_countInSort_33 : decode cX6_countInSort 33 = .ok (.aload_n 0, 1) := by decide +kernel
theorem dX6_countInSort_34 : decode cX6_countInSort 34 = .ok (.getfield 24, 3) := by decide +kernel
theorem dX6_countInSort_37 : decode cX6_countInSort 37 = .ok (.aload_n 0, 1) := by decide +kernel
theorem dX6_countInSort_38 : decode cX6_countInSort 38 = .ok (.getfield 37, 3) := by decide +kernel
theorem dX6_countInSort_41 : decode cX6_countInSort 41 = .ok (.iload_n 1, 1) := by decide +kernel
theorem dX6_countInSort_42 : decode cX6_countInSort 42 = .ok (.iastore, 1) := by decide +kernel
theorem dX6_countInSort_43 : decode cX6_countInSort 43 = .ok (.aload_n 0, 1) := by decide +kernel
theorem dX6_countInSort_44 : decode cX6_countInSort 44 = .ok (.getfield 27, 3) := by decide +kernel
theorem dX6_countInSort_47 : decode cX6_countInSort 47 = .ok (.aload_n 0, 1) := by decide +kernel
theorem dX6_countInSort_48 : decode cX6_countInSort 48 = .ok (.getfield 37, 3) := by decide +kernel
theorem dX6_countInSort_51 : decode cX6_countInSort 51 = .ok (.iconst 1, 1) := by decide +kernel
theorem dX6_countInSort_52 : decode cX6_countInSort 52 = .ok (.iastore, 1) := by decide +kernel
theorem dX6_countInSort_53 : decode cX6_countInSort 53 = .ok (.aload_n 0, 1) := by decide +kernel
theorem dX6_countInSort_54 : decode cX6_countInSort 54 = .ok (.dup, 1) := by decide +kernel
theorem dX6_countInSort_55 : decode cX6_countInSort 55 = .ok (.getfield 37, 3) := by decide +kernel
theorem dX6_countInSort_58 : decode cX6_countInSort 58 = .ok (.iconst 1, 1) := by decide +kernel
theorem dX6_countInSort_59 : decode cX6_countInSort 59 = .ok (.iadd, 1) := by decide +kernel
theorem dX6_countInSort_60 : decode cX6_countInSort 60 = .ok (.putfield 37, 3) := by decide +kernel
theorem dX6_countInSort_63 : decode cX6_countInSort 63 = .ok (.return_, 1) := by decide +kernel
theorem dX6_sortAnew_0 : decode cX6_sortAnew 0 = .ok (.aload_n 0, 1) := by decide +kernel
theorem dX6_sortAnew_1 : decode cX6_sortAnew 1 = .ok (.iconst 0, 1) := by decide +kernel
theorem dX6_sortAnew_2 : decode cX6_sortAnew 2 = .ok (.putfield 37, 3) := by decide +kernel
theorem dX6_sortAnew_5 : decode cX6_sortAnew 5 = .ok (.iconst 0, 1) := by decide +kernel
theorem dX6_sortAnew_6 : decode cX6_sortAnew 6 = .ok (.istore_n 1, 1) := by decide +kernel
theorem dX6_sortAnew_7 : decode cX6_sortAnew 7 = .ok (.iload_n 1, 1) := by decide +kernel
theorem dX6_sortAnew_8 : decode cX6_sortAnew 8 = .ok (.aload_n 0, 1) := by decide +kernel
theorem dX6_sortAnew_9 : decode cX6_sortAnew 9 = .ok (.getfield 30, 3) := by decide +kernel
theorem dX6_sortAnew_12 : decode cX6_sortAnew 12 = .ok (.if_icmp .ge 19, 3) := by decide +kernel
theorem dX6_sortAnew_15 : decode cX6_sortAnew 15 = .ok (.aload_n 0, 1) := by decide +kernel
theorem dX6_sortAnew_16 : decode cX6_sortAnew 16 = .ok (.aload_n 0, 1) := by decide +kernel
theorem dX6_sortAnew_17 : decode cX6_sortAnew 17 = .ok (.getfield 9, 3) := by decide +kernel
theorem dX6_sortAnew_20 : decode cX6_sortAnew 20 = .ok (.iload_n 1, 1) := by decide +kernel
theorem dX6_sortAnew_21 : decode cX6_sortAnew 21 = .ok (.iaload, 1) := by decide +kernel
theorem dX6_sortAnew_22 : decode cX6_sortAnew 22 = .ok (.invokevirtual 58, 3) := by decide +kernel
theorem dX6_sortAnew_25 : decode cX6_sortAnew 25 = .ok (.iinc 1 1, 3) := by decide +kernel
theorem dX6_sortAnew_28 : decode cX6_sortAnew 28 = .ok (.goto (-21), 3) := by decide +kernel
theorem dX6_sortAnew_31 : decode cX6_sortAnew 31 = .ok (.iconst 0, 1) := by decide +kernel
theorem dX6_sortAnew_32 : decode cX6_sortAnew 32 = .ok (.istore_n 1, 1) := by decide +kernel
theorem dX6_sortAnew_33 : decode cX6_sortAnew 33 = .ok (.iload_n 1, 1) := by decide +kernel
theorem dX6_sortAnew_34 : decode cX6_sortAnew 34 = .ok (.aload_n 0, 1) := by decide +kernel
theorem dX6_sortAnew_35 : decode cX6_sortAnew 35 = .ok (.getfield 34, 3) := by decide +kernel
theorem dX6_sortAnew_38 : decode cX6_sortAnew 38 = .ok (.if_icmp .ge 19, 3) := by decide +kernel
theorem dX6_sortAnew_41 : decode cX6_sortAnew 41 = .ok (.aload_n 0, 1) := by decide +kernel
theorem dX6_sortAnew_42 : decode cX6_sortAnew 42 = .ok (.aload_n 0, 1) := by decide +kernel
theorem dX6_sortAnew_43 : decode cX6_sortAnew 43 = .ok (.getfield 15, 3) := by decide +kernel
theorem dX6_sortAnew_46 : decode cX6_sortAnew 46 = .ok (.iload_n 1, 1) := by decide +kernel
theorem dX6_sortAnew_47 : decode cX6_sortAnew 47 = .ok (.iaload, 1) := by decide +kernel
theorem dX6_sortAnew_48 : decode cX6_sortAnew 48 = .ok (.invokevirtual 58, 3) := by decide +kernel
theorem dX6_sortAnew_51 : decode cX6_sortAnew 51 = .ok (.iinc 1 1, 3) := by decide +kernel
theorem dX6_sortAnew_54 : decode cX6_sortAnew 54 = .ok (.goto (-21), 3) := by decide +kernel
theorem dX6_sortAnew_57 : decode cX6_sortAnew 57 = .ok (.return_, 1) := by decide +kernel
theorem dX6_dropShaft_0 : decode cX6_dropShaft 0 = .ok (.iload_n 1, 1) := by decide +kernel
theorem dX6_dropShaft_1 : decode cX6_dropShaft 1 = .ok (.aload_n 0, 1) := by decide +kernel
theorem dX6_dropShaft_2 : decode cX6_dropShaft 2 = .ok (.getfield 30, 3) := by decide +kernel
theorem dX6_dropShaft_5 : decode cX6_dropShaft 5 = .ok (.invokestatic 62, 3) := by decide +kernel
theorem dX6_dropShaft_8 : decode cX6_dropShaft 8 = .ok (.ifCond .ne 4, 3) := by decide +kernel
theorem dX6_dropShaft_11 : decode cX6_dropShaft 11 = .ok (.return_, 1) := by decide +kernel
theorem dX6_dropShaft_12 : decode cX6_dropShaft 12 = .ok (.aload_n 0, 1) := by decide +kernel
theorem dX6_dropShaft_13 : decode cX6_dropShaft 13 = .ok (.dup, 1) := by decide +kernel
theorem dX6_dropShaft_14 : decode cX6_dropShaft 14 = .ok (.getfield 30, 3) := by decide +kernel
theorem dX6_dropShaft_17 : decode cX6_dropShaft 17 = .ok (.iconst 1, 1) := by decide +kernel
theorem dX6_dropShaft_18 : decode cX6_dropShaft 18 = .ok (.isub, 1) := by decide +kernel
theorem dX6_dropShaft_19 : decode cX6_dropShaft 19 = .ok (.putfield 30, 3) := by decide +kernel
theorem dX6_dropShaft_22 : decode cX6_dropShaft 22 = .ok (.iload_n 1, 1) := by decide +kernel
theorem dX6_dropShaft_23 : decode cX6_dropShaft 23 = .ok (.istore_n 2, 1) := by decide +kernel
theorem dX6_dropShaft_24 : decode cX6_dropShaft 24 = .ok (.iload_n 2, 1) := by decide +kernel
theorem dX6_dropShaft_25 : decode cX6_dropShaft 25 = .ok (.aload_n 0, 1) := by decide +kernel
theorem dX6_dropShaft_26 : decode cX6_dropShaft 26 = .ok (.getfield 30, 3) := by decide +kernel
theorem dX6_dropShaft_29 : decode cX6_dropShaft 29 = .ok (.if_icmp .ge 23, 3) := by decide +kernel
theorem dX6_dropShaft_32 : decode cX6_dropShaft 32 = .ok (.aload_n 0, 1) := by decide +kernel
theorem dX6_dropShaft_33 : decode cX6_dropShaft 33 = .ok (.getfield 9, 3) := by decide +kernel
theorem dX6_dropShaft_36 : decode cX6_dropShaft 36 = .ok (.iload_n 2, 1) := by decide +kernel
theorem dX6_dropShaft_37 : decode cX6_dropShaft 37 = .ok (.aload_n 0, 1) := by decide +kernel
theorem dX6_dropShaft_38 : decode cX6_dropShaft 38 = .ok (.getfield 9, 3) := by decide +kernel
theorem dX6_dropShaft_41 : decode cX6_dropShaft 41 = .ok (.iload_n 2, 1) := by decide +kernel
theorem dX6_dropShaft_42 : decode cX6_dropShaft 42 = .ok (.iconst 1, 1) := by decide +kernel
theorem dX6_dropShaft_43 : decode cX6_dropShaft 43 = .ok (.iadd, 1) := by decide +kernel
theorem dX6_dropShaft_44 : decode cX6_dropShaft 44 = .ok (.iaload, 1) := by decide +kernel
theorem dX6_dropShaft_45 : decode cX6_dropShaft 45 = .ok (.iastore, 1) := by decide +kernel
theorem dX6_dropShaft_46 : decode cX6_dropShaft 46 = .ok (.iinc 2 1, 3) := by decide +kernel
theorem dX6_dropShaft_49 : decode cX6_dropShaft 49 = .ok (.goto (-25), 3) := by decide +kernel
theorem dX6_dropShaft_52 : decode cX6_dropShaft 52 = .ok (.return_, 1) := by decide +kernel
theorem dX6_dropBore_0 : decode cX6_dropBore 0 = .ok (.iload_n 1, 1) := by decide +kernel
theorem dX6_dropBore_1 : decode cX6_dropBore 1 = .ok (.aload_n 0, 1) := by decide +kernel
theorem dX6_dropBore_2 : decode cX6_dropBore 2 = .ok (.getfield 34, 3) := by decide +kernel
theorem dX6_dropBore_5 : decode cX6_dropBore 5 = .ok (.invokestatic 62, 3) := by decide +kernel
theorem dX6_dropBore_8 : decode cX6_dropBore 8 = .ok (.ifCond .ne 4, 3) := by decide +kernel
theorem dX6_dropBore_11 : decode cX6_dropBore 11 = .ok (.return_, 1) := by decide +kernel
theorem dX6_dropBore_12 : decode cX6_dropBore 12 = .ok (.aload_n 0, 1) := by decide +kernel
theorem dX6_dropBore_13 : decode cX6_dropBore 13 = .ok (.dup, 1) := by decide +kernel
theorem dX6_dropBore_14 : decode cX6_dropBore 14 = .ok (.getfield 34, 3) := by decide +kernel
theorem dX6_dropBore_17 : decode cX6_dropBore 17 = .ok (.iconst 1, 1) := by decide +kernel
theorem dX6_dropBore_18 : decode cX6_dropBore 18 = .ok (.isub, 1) := by decide +kernel
theorem dX6_dropBore_19 : decode cX6_dropBore 19 = .ok (.putfield 34, 3) := by decide +kernel
theorem dX6_dropBore_22 : decode cX6_dropBore 22 = .ok (.iload_n 1, 1) := by decide +kernel
theorem dX6_dropBore_23 : decode cX6_dropBore 23 = .ok (.istore_n 2, 1) := by decide +kernel
theorem dX6_dropBore_24 : decode cX6_dropBore 24 = .ok (.iload_n 2, 1) := by decide +kernel
theorem dX6_dropBore_25 : decode cX6_dropBore 25 = .ok (.aload_n 0, 1) := by decide +kernel
theorem dX6_dropBore_26 : decode cX6_dropBore 26 = .ok (.getfield 34, 3) := by decide +kernel
theorem dX6_dropBore_29 : decode cX6_dropBore 29 = .ok (.if_icmp .ge 23, 3) := by decide +kernel
theorem dX6_dropBore_32 : decode cX6_dropBore 32 = .ok (.aload_n 0, 1) := by decide +kernel
theorem dX6_dropBore_33 : decode cX6_dropBore 33 = .ok (.getfield 15, 3) := by decide +kernel
theorem dX6_dropBore_36 : decode cX6_dropBore 36 = .ok (.iload_n 2, 1) := by decide +kernel
theorem dX6_dropBore_37 : decode cX6_dropBore 37 = .ok (.aload_n 0, 1) := by decide +kernel
theorem dX6_dropBore_38 : decode cX6_dropBore 38 = .ok (.getfield 15, 3) := by decide +kernel
theorem dX6_dropBore_41 : decode cX6_dropBore 41 = .ok (.iload_n 2, 1) := by decide +kernel
theorem dX6_dropBore_42 : decode cX6_dropBore 42 = .ok (.iconst 1, 1) := by decide +kernel
theorem dX6_dropBore_43 : decode cX6_dropBore 43 = .ok (.iadd, 1) := by decide +kernel
theorem dX6_dropBore_44 : decode cX6_dropBore 44 = .ok (.iaload, 1) := by decide +kernel
theorem dX6_dropBore_45 : decode cX6_dropBore 45 = .ok (.iastore, 1) := by decide +kernel
theorem dX6_dropBore_46 : decode cX6_dropBore 46 = .ok (.iinc 2 1, 3) := by decide +kernel
theorem dX6_dropBore_49 : decode cX6_dropBore 49 = .ok (.goto (-25), 3) := by decide +kernel
theorem dX6_dropBore_52 : decode cX6_dropBore 52 = .ok (.return_, 1) := by decide +kernel
theorem dX6_empty_0 : decode cX6_empty 0 = .ok (.aload_n 0, 1) := by decide +kernel
theorem dX6_empty_1 : decode cX6_empty 1 = .ok (.iconst 0, 1) := by decide +kernel
theorem dX6_empty_2 : decode cX6_empty 2 = .ok (.putfield 30, 3) := by decide +kernel
theorem dX6_empty_5 : decode cX6_empty 5 = .ok (.aload_n 0, 1) := by decide +kernel
theorem dX6_empty_6 : decode cX6_empty 6 = .ok (.iconst 0, 1) := by decide +kernel
theorem dX6_empty_7 : decode cX6_empty 7 = .ok (.putfield 34, 3) := by decide +kernel
theorem dX6_empty_10 : decode cX6_empty 10 = .ok (.aload_n 0, 1) := by decide +kernel
theorem dX6_empty_11 : decode cX6_empty 11 = .ok (.iconst 0, 1) := by decide +kernel
theorem dX6_empty_12 : decode cX6_empty 12 = .ok (.putfield 37, 3) := by decide +kernel
theorem dX6_empty_15 : decode cX6_empty 15 = .ok (.return_, 1) := by decide +kernel
theorem dX6_partsOfKind_0 : decode cX6_partsOfKind 0 = .ok (.iconst 0, 1) := by decide +kernel
theorem dX6_partsOfKind_1 : decode cX6_partsOfKind 1 = .ok (.istore_n 2, 1) := by decide +kernel
theorem dX6_partsOfKind_2 : decode cX6_partsOfKind 2 = .ok (.iconst 0, 1) := by decide +kernel
theorem dX6_partsOfKind_3 : decode cX6_partsOfKind 3 = .ok (.istore_n 3, 1) := by decide +kernel
theorem dX6_partsOfKind_4 : decode cX6_partsOfKind 4 = .ok (.iload_n 3, 1) := by decide +kernel
theorem dX6_partsOfKind_5 : decode cX6_partsOfKind 5 = .ok (.aload_n 0, 1) := by decide +kernel
theorem dX6_partsOfKind_6 : decode cX6_partsOfKind 6 = .ok (.getfield 30, 3) := by decide +kernel
theorem dX6_partsOfKind_9 : decode cX6_partsOfKind 9 = .ok (.if_icmp .ge 27, 3) := by decide +kernel
theorem dX6_partsOfKind_12 : decode cX6_partsOfKind 12 = .ok (.iload_n 2, 1) := by decide +kernel
theorem dX6_partsOfKind_13 : decode cX6_partsOfKind 13 = .ok (.aload_n 0, 1) := by decide +kernel
theorem dX6_partsOfKind_14 : decode cX6_partsOfKind 14 = .ok (.getfield 9, 3) := by decide +kernel
theorem dX6_partsOfKind_17 : decode cX6_partsOfKind 17 = .ok (.iload_n 3, 1) := by decide +kernel
theorem dX6_partsOfKind_18 : decode cX6_partsOfKind 18 = .ok (.iaload, 1) := by decide +kernel
theorem dX6_partsOfKind_19 : decode cX6_partsOfKind 19 = .ok (.iload_n 1, 1) := by decide +kernel
theorem dX6_partsOfKind_20 : decode cX6_partsOfKind 20 = .ok (.if_icmp .ne 7, 3) := by decide +kernel
theorem dX6_partsOfKind_23 : decode cX6_partsOfKind 23 = .ok (.iconst 1, 1) := by decide +kernel
theorem dX6_partsOfKind_24 : decode cX6_partsOfKind 24 = .ok (.goto 4, 3) := by decide +kernel
theorem dX6_partsOfKind_27 : decode cX6_partsOfKind 27 = .ok (.iconst 0, 1) := by decide +kernel
theorem dX6_partsOfKind_28 : decode cX6_partsOfKind 28 = .ok (.iadd, 1) := by decide +kernel
theorem dX6_partsOfKind_29 : decode cX6_partsOfKind 29 = .ok (.istore_n 2, 1) := by decide +kernel
theorem dX6_partsOfKind_30 : decode cX6_partsOfKind 30 = .ok (.iinc 3 1, 3) := by decide +kernel
theorem dX6_partsOfKind_33 : decode cX6_partsOfKind 33 = .ok (.goto (-29), 3) := by decide +kernel
theorem dX6_partsOfKind_36 : decode cX6_partsOfKind 36 = .ok (.iconst 0, 1) := by decide +kernel
theorem dX6_partsOfKind_37 : decode cX6_partsOfKind 37 = .ok (.istore_n 3, 1) := by decide +kernel
theorem dX6_partsOfKind_38 : decode cX6_partsOfKind 38 = .ok (.iload_n 3, 1) := by decide +kernel
theorem dX6_partsOfKind_39 : decode cX6_partsOfKind 39 = .ok (.aload_n 0, 1) := by decide +kernel
theorem dX6_partsOfKind_40 : decode cX6_partsOfKind 40 = .ok (.getfield 34, 3) := by decide +kernel
theorem dX6_partsOfKind_43 : decode cX6_partsOfKind 43 = .ok (.if_icmp .ge 27, 3) := by decide +kernel
theorem dX6_partsOfKind_46 : decode cX6_partsOfKind 46 = .ok (.iload_n 2, 1) := by decide +kernel
theorem dX6_partsOfKind_47 : decode cX6_partsOfKind 47 = .ok (.aload_n 0, 1) := by decide +kernel
theorem dX6_partsOfKind_48 : decode cX6_partsOfKind 48 = .ok (.getfield 15, 3) := by decide +kernel
theorem dX6_partsOfKind_51 : decode cX6_partsOfKind 51 = .ok (.iload_n 3, 1) := by decide +kernel
theorem dX6_partsOfKind_52 : decode cX6_partsOfKind 52 = .ok (.iaload, 1) := by decide +kernel
theorem dX6_partsOfKind_53 : decode cX6_partsOfKind 53 = .ok (.iload_n 1, 1) := by decide +kernel
theorem dX6_partsOfKind_54 : decode cX6_partsOfKind 54 = .ok (.if_icmp .ne 7, 3) := by decide +kernel
theorem dX6_partsOfKind_57 : decode cX6_partsOfKind 57 = .ok (.iconst 1, 1) := by decide +kernel
theorem dX6_partsOfKind_58 : decode cX6_partsOfKind 58 = .ok (.goto 4, 3) := by decide +kernel
theorem dX6_partsOfKind_61 : decode cX6_partsOfKind 61 = .ok (.iconst 0, 1) := by decide +kernel
theorem dX6_partsOfKind_62 : decode cX6_partsOfKind 62 = .ok (.iadd, 1) := by decide +kernel
theorem dX6_partsOfKind_63 : decode cX6_partsOfKind 63 = .ok (.istore_n 2, 1) := by decide +kernel
theorem dX6_partsOfKind_64 : decode cX6_partsOfKind 64 = .ok (.iinc 3 1, 3) := by decide +kernel
theorem dX6_partsOfKind_67 : decode cX6_partsOfKind 67 = .ok (.goto (-29), 3) := by decide +kernel
theorem dX6_partsOfKind_70 : decode cX6_partsOfKind 70 = .ok (.iload_n 2, 1) := by decide +kernel
theorem dX6_partsOfKind_71 : decode cX6_partsOfKind 71 = .ok (.ireturn, 1) := by decide +kernel
theorem dX6_shaftsOfGrade_0 : decode cX6_shaftsOfGrade 0 = .ok (.iconst 0, 1) := by decide +kernel
theorem dX6_shaftsOfGrade_1 : decode cX6_shaftsOfGrade 1 = .ok (.istore_n 2, 1) := by decide +kernel
theorem dX6_shaftsOfGrade_2 : decode cX6_shaftsOfGrade 2 = .ok (.iconst 0, 1) := by decide +kernel
theorem dX6_shaftsOfGrade_3 : decode cX6_shaftsOfGrade 3 = .ok (.istore_n 3, 1) := by decide +kernel
theorem dX6_shaftsOfGrade_4 : decode cX6_shaftsOfGrade 4 = .ok (.iload_n 3, 1) := by decide +kernel
theorem dX6_shaftsOfGrade_5 : decode cX6_shaftsOfGrade 5 = .ok (.aload_n 0, 1) := by decide +kernel
theorem dX6_shaftsOfGrade_6 : decode cX6_shaftsOfGrade 6 = .ok (.getfield 30, 3) := by decide +kernel
theorem dX6_shaftsOfGrade_9 : decode cX6_shaftsOfGrade 9 = .ok (.if_icmp .ge 30, 3) := by decide +kernel
theorem dX6_shaftsOfGrade_12 : decode cX6_shaftsOfGrade 12 = .ok (.iload_n 2, 1) := by decide +kernel
theorem dX6_shaftsOfGrade_13 : decode cX6_shaftsOfGrade 13 = .ok (.aload_n 0, 1) := by decide +kernel
theorem dX6_shaftsOfGrade_14 : decode cX6_shaftsOfGrade 14 = .ok (.getfield 9, 3) := by decide +kernel
theorem dX6_shaftsOfGrade_17 : decode cX6_shaftsOfGrade 17 = .ok (.iload_n 3, 1) := by decide +kernel
theorem dX6_shaftsOfGrade_18 : decode cX6_shaftsOfGrade 18 = .ok (.iaload, 1) := by decide +kernel
theorem dX6_shaftsOfGrade_19 : decode cX6_shaftsOfGrade 19 = .ok (.invokestatic 46, 3) := by decide +kernel
theorem dX6_shaftsOfGrade_22 : decode cX6_shaftsOfGrade 22 = .ok (.iload_n 1, 1) := by decide +kernel
theorem dX6_shaftsOfGrade_23 : decode cX6_shaftsOfGrade 23 = .ok (.if_icmp .ne 7, 3) := by decide +kernel
theorem dX6_shaftsOfGrade_26 : decode cX6_shaftsOfGrade 26 = .ok (.iconst 1, 1) := by decide +kernel
theorem dX6_shaftsOfGrade_27 : decode cX6_shaftsOfGrade 27 = .ok (.goto 4, 3) := by decide +kernel
theorem dX6_shaftsOfGrade_30 : decode cX6_shaftsOfGrade 30 = .ok (.iconst 0, 1) := by decide +kernel
theorem dX6_shaftsOfGrade_31 : decode cX6_shaftsOfGrade 31 = .ok (.iadd, 1) := by decide +kernel
theorem dX6_shaftsOfGrade_32 : decode cX6_shaftsOfGrade 32 = .ok (.istore_n 2, 1) := by decide +kernel
theorem dX6_shaftsOfGrade_33 : decode cX6_shaftsOfGrade 33 = .ok (.iinc 3 1, 3) := by decide +kernel
theorem dX6_shaftsOfGrade_36 : decode cX6_shaftsOfGrade 36 = .ok (.goto (-32), 3) := by decide +kernel
theorem dX6_shaftsOfGrade_39 : decode cX6_shaftsOfGrade 39 = .ok (.iload_n 2, 1) := by decide +kernel
theorem dX6_shaftsOfGrade_40 : decode cX6_shaftsOfGrade 40 = .ok (.ireturn, 1) := by decide +kernel
theorem dX6_shaftsFittedBy_0 : decode cX6_shaftsFittedBy 0 = .ok (.iconst 0, 1) := by decide +kernel
theorem dX6_shaftsFittedBy_1 : decode cX6_shaftsFittedBy 1 = .ok (.istore_n 2, 1) := by decide +kernel
theorem dX6_shaftsFittedBy_2 : decode cX6_shaftsFittedBy 2 = .ok (.iconst 0, 1) := by decide +kernel
theorem dX6_shaftsFittedBy_3 : decode cX6_shaftsFittedBy 3 = .ok (.istore_n 3, 1) := by decide +kernel
theorem dX6_shaftsFittedBy_4 : decode cX6_shaftsFittedBy 4 = .ok (.iload_n 3, 1) := by decide +kernel
theorem dX6_shaftsFittedBy_5 : decode cX6_shaftsFittedBy 5 = .ok (.aload_n 0, 1) := by decide +kernel
theorem dX6_shaftsFittedBy_6 : decode cX6_shaftsFittedBy 6 = .ok (.getfield 30, 3) := by decide +kernel
theorem dX6_shaftsFittedBy_9 : decode cX6_shaftsFittedBy 9 = .ok (.if_icmp .ge 45, 3) := by decide +kernel
theorem dX6_shaftsFittedBy_12 : decode cX6_shaftsFittedBy 12 = .ok (.iload_n 2, 1) := by decide +kernel
theorem dX6_shaftsFittedBy_13 : decode cX6_shaftsFittedBy 13 = .ok (.aload_n 0, 1) := by decide +kernel
theorem dX6_shaftsFittedBy_14 : decode cX6_shaftsFittedBy 14 = .ok (.aload_n 0, 1) := by decide +kernel
theorem dX6_shaftsFittedBy_15 : decode cX6_shaftsFittedBy 15 = .ok (.getfield 9, 3) := by decide +kernel
theorem dX6_shaftsFittedBy_18 : decode cX6_shaftsFittedBy 18 = .ok (.iload_n 3, 1) := by decide +kernel
theorem dX6_shaftsFittedBy_19 : decode cX6_shaftsFittedBy 19 = .ok (.iaload, 1) := by decide +kernel
theorem dX6_shaftsFittedBy_20 : decode cX6_shaftsFittedBy 20 = .ok (.invokevirtual 66, 3) := by decide +kernel
theorem dX6_shaftsFittedBy_23 : decode cX6_shaftsFittedBy 23 = .ok (.iload_n 1, 1) := by decide +kernel
theorem dX6_shaftsFittedBy_24 : decode cX6_shaftsFittedBy 24 = .ok (.if_icmp .gt 21, 3) := by decide +kernel
theorem dX6_shaftsFittedBy_27 : decode cX6_shaftsFittedBy 27 = .ok (.iload_n 1, 1) := by decide +kernel
theorem dX6_shaftsFittedBy_28 : decode cX6_shaftsFittedBy 28 = .ok (.aload_n 0, 1) := by decide +kernel
theorem dX6_shaftsFittedBy_29 : decode cX6_shaftsFittedBy 29 = .ok (.aload_n 0, 1) := by decide +kernel
theorem dX6_shaftsFittedBy_30 : decode cX6_shaftsFittedBy 30 = .ok (.getfield 9, 3) := by decide +kernel
theorem dX6_shaftsFittedBy_33 : decode cX6_shaftsFittedBy 33 = .ok (.iload_n 3, 1) := by decide +kernel
theorem dX6_shaftsFittedBy_34 : decode cX6_shaftsFittedBy 34 = .ok (.iaload, 1) := by decide +kernel
theorem dX6_shaftsFittedBy_35 : decode cX6_shaftsFittedBy 35 = .ok (.invokevirtual 69, 3) := by decide +kernel
theorem dX6_shaftsFittedBy_38 : decode cX6_shaftsFittedBy 38 = .ok (.if_icmp .gt 7, 3) := by decide +kernel
theorem dX6_shaftsFittedBy_41 : decode cX6_shaftsFittedBy 41 = .ok (.iconst 1, 1) := by decide +kernel
theorem dX6_shaftsFittedBy_42 : decode cX6_shaftsFittedBy 42 = .ok (.goto 4, 3) := by decide +kernel
theorem dX6_shaftsFittedBy_45 : decode cX6_shaftsFittedBy 45 = .ok (.iconst 0, 1) := by decide +kernel
theorem dX6_shaftsFittedBy_46 : decode cX6_shaftsFittedBy 46 = .ok (.iadd, 1) := by decide +kernel
theorem dX6_shaftsFittedBy_47 : decode cX6_shaftsFittedBy 47 = .ok (.istore_n 2, 1) := by decide +kernel
theorem dX6_shaftsFittedBy_48 : decode cX6_shaftsFittedBy 48 = .ok (.iinc 3 1, 3) := by decide +kernel
theorem dX6_shaftsFittedBy_51 : decode cX6_shaftsFittedBy 51 = .ok (.goto (-47), 3) := by decide +kernel
theorem dX6_shaftsFittedBy_54 : decode cX6_shaftsFittedBy 54 = .ok (.iload_n 2, 1) := by decide +kernel
theorem dX6_shaftsFittedBy_55 : decode cX6_shaftsFittedBy 55 = .ok (.ireturn, 1) := by decide +kernel
theorem dX6_begin_0 : decode cX6_begin 0 = .ok (.iload_n 1, 1) := by decide +kernel
theorem dX6_begin_1 : decode cX6_begin 1 = .ok (.invokestatic 46, 3) := by decide +kernel
theorem dX6_begin_4 : decode cX6_begin 4 = .ok (.istore_n 2, 1) := by decide +kernel
theorem dX6_begin_5 : decode cX6_begin 5 = .ok (.iload_n 2, 1) := by decide +kernel
theorem dX6_begin_6 : decode cX6_begin 6 = .ok (.iconst 4, 1) := by decide +kernel
theorem dX6_begin_7 : decode cX6_begin 7 = .ok (.invokestatic 62, 3) := by decide +kernel
theorem dX6_begin_10 : decode cX6_begin 10 = .ok (.ifCond .eq 17, 3) := by decide +kernel
theorem dX6_begin_13 : decode cX6_begin 13 = .ok (.iload_n 1, 1) := by decide +kernel
theorem dX6_begin_14 : decode cX6_begin 14 = .ok (.invokestatic 72, 3) := by decide +kernel
theorem dX6_begin_17 : decode cX6_begin 17 = .ok (.aload_n 0, 1) := by decide +kernel
theorem dX6_begin_18 : decode cX6_begin 18 = .ok (.getfield 18, 3) := by decide +kernel
theorem dX6_begin_21 : decode cX6_begin 21 = .ok (.iload_n 2, 1) := by decide +kernel
theorem dX6_begin_22 : decode cX6_begin 22 = .ok (.iaload, 1) := by decide +kernel
theorem dX6_begin_23 : decode cX6_begin 23 = .ok (.iadd, 1) := by decide +kernel
theorem dX6_begin_24 : decode cX6_begin 24 = .ok (.goto 7, 3) := by decide +kernel
theorem dX6_begin_27 : decode cX6_begin 27 = .ok (.iload_n 1, 1) := by decide +kernel
theorem dX6_begin_28 : decode cX6_begin 28 = .ok (.invokestatic 72, 3) := by decide +kernel
theorem dX6_begin_31 : decode cX6_begin 31 = .ok (.ireturn, 1) := by decide +kernel
theorem dX6_end_0 : decode cX6_end 0 = .ok (.iload_n 1, 1) := by decide +kernel
theorem dX6_end_1 : decode cX6_end 1 = .ok (.invokestatic 46, 3) := by decide +kernel
theorem dX6_end_4 : decode cX6_end 4 = .ok (.istore_n 2, 1) := by decide +kernel
theorem dX6_end_5 : decode cX6_end 5 = .ok (.iload_n 2, 1) := by decide +kernel
theorem dX6_end_6 : decode cX6_end 6 = .ok (.iconst 4, 1) := by decide +kernel
theorem dX6_end_7 : decode cX6_end 7 = .ok (.invokestatic 62, 3) := by decide +kernel
theorem dX6_end_10 : decode cX6_end 10 = .ok (.ifCond .eq 17, 3) := by decide +kernel
theorem dX6_end_13 : decode cX6_end 13 = .ok (.iload_n 1, 1) := by decide +kernel
theorem dX6_end_14 : decode cX6_end 14 = .ok (.invokestatic 72, 3) := by decide +kernel
theorem dX6_end_17 : decode cX6_end 17 = .ok (.aload_n 0, 1) := by decide +kernel
theorem dX6_end_18 : decode cX6_end 18 = .ok (.getfield 21, 3) := by decide +kernel
theorem dX6_end_21 : decode cX6_end 21 = .ok (.iload_n 2, 1) := by decide +kernel
theorem dX6_end_22 : decode cX6_end 22 = .ok (.iaload, 1) := by decide +kernel
theorem dX6_end_23 : decode cX6_end 23 = .ok (.iadd, 1) := by decide +kernel
theorem dX6_end_24 : decode cX6_end 24 = .ok (.goto 7, 3) := by decide +kernel
theorem dX6_end_27 : decode cX6_end 27 = .ok (.iload_n 1, 1) := by decide +kernel
theorem dX6_end_28 : decode cX6_end 28 = .ok (.invokestatic 72, 3) := by decide +kernel
theorem dX6_end_31 : decode cX6_end 31 = .ok (.ireturn, 1) := by decide +kernel
theorem dX7_init_0 : decode cX7_init 0 = .ok (.aload_n 0, 1) := by decide +kernel
theorem dX7_init_1 : decode cX7_init 1 = .ok (.invokespecial 1, 3) := by decide +kernel
theorem dX7_init_4 : decode cX7_init 4 = .ok (.aload_n 0, 1) := by decide +kernel
theorem dX7_init_5 : decode cX7_init 5 = .ok (.new 7, 3) := by decide +kernel
theorem dX7_init_8 : decode cX7_init 8 = .ok (.dup, 1) := by decide +kernel
theorem dX7_init_9 : decode cX7_init 9 = .ok (.invokespecial 9, 3) := by decide +kernel
theorem dX7_init_12 : decode cX7_init 12 = .ok (.putfield 10, 3) := by decide +kernel
theorem dX7_init_15 : decode cX7_init 15 = .ok (.aload_n 0, 1) := by decide +kernel
theorem dX7_init_16 : decode cX7_init 16 = .ok (.new 16, 3) := by decide +kernel
theorem dX7_init_19 : decode cX7_init 19 = .ok (.dup, 1) := by decide +kernel
theorem dX7_init_20 : decode cX7_init 20 = .ok (.invokespecial 18, 3) := by decide +kernel
theorem dX7_init_23 : decode cX7_init 23 = .ok (.putfield 19, 3) := by decide +kernel
theorem dX7_init_26 : decode cX7_init 26 = .ok (.aload_n 0, 1) := by decide +kernel
theorem dX7_init_27 : decode cX7_init 27 = .ok (.new 23, 3) := by decide +kernel
theorem dX7_init_30 : decode cX7_init 30 = .ok (.dup, 1) := by decide +kernel
theorem dX7_init_31 : decode cX7_init 31 = .ok (.invokespecial 25, 3) := by decide +kernel
theorem dX7_init_34 : decode cX7_init 34 = .ok (.putfield 26, 3) := by decide +kernel
theorem dX7_init_37 : decode cX7_init 37 = .ok (.aload_n 0, 1) := by decide +kernel
theorem dX7_init_38 : decode cX7_init 38 = .ok (.new 30, 3) := by decide +kernel
theorem dX7_init_41 : decode cX7_init 41 = .ok (.dup, 1) := by decide +kernel
theorem dX7_init_42 : decode cX7_init 42 = .ok (.invokespecial 32, 3) := by decide +kernel
theorem dX7_init_45 : decode cX7_init 45 = .ok (.putfield 33, 3) := by decide +kernel
theorem dX7_init_48 : decode cX7_init 48 = .ok (.aload_n 0, 1) := by decide +kernel
theorem dX7_init_49 : decode cX7_init 49 = .ok (.new 37, 3) := by decide +kernel
theorem dX7_init_52 : decode cX7_init 52 = .ok (.dup, 1) := by decide +kernel
theorem dX7_init_53 : decode cX7_init 53 = .ok (.invokespecial 39, 3) := by decide +kernel
theorem dX7_init_56 : decode cX7_init 56 = .ok (.putfield 40, 3) := by decide +kernel
theorem dX7_init_59 : decode cX7_init 59 = .ok (.aload_n 0, 1) := by decide +kernel
theorem dX7_init_60 : decode cX7_init 60 = .ok (.new 44, 3) := by decide +kernel
theorem dX7_init_63 : decode cX7_init 63 = .ok (.dup, 1) := by decide +kernel
theorem dX7_init_64 : decode cX7_init 64 = .ok (.invokespecial 46, 3) := by decide +kernel
theorem dX7_init_67 : decode cX7_init 67 = .ok (.putfield 47, 3) := by decide +kernel
theorem dX7_init_70 : decode cX7_init 70 = .ok (.aload_n 0, 1) := by decide +kernel
theorem dX7_init_71 : decode cX7_init 71 = .ok (.iconst 2, 1) := by decide +kernel
theorem dX7_init_72 : decode cX7_init 72 = .ok (.anewarray 51, 3) := by decide +kernel
theorem dX7_init_75 : decode cX7_init 75 = .ok (.putfield 53, 3) := by decide +kernel
theorem dX7_init_78 : decode cX7_init 78 = .ok (.aload_n 0, 1) := by decide +kernel
theorem dX7_init_79 : decode cX7_init 79 = .ok (.iconst 0, 1) := by decide +kernel
theorem dX7_init_80 : decode cX7_init 80 = .ok (.putfield 57, 3) := by decide +kernel
theorem dX7_init_83 : decode cX7_init 83 = .ok (.iconst 0, 1) := by decide +kernel
theorem dX7_init_84 : decode cX7_init 84 = .ok (.istore_n 1, 1) := by decide +kernel
theorem dX7_init_85 : decode cX7_init 85 = .ok (.iload_n 1, 1) := by decide +kernel
theorem dX7_init_86 : decode cX7_init 86 = .ok (.iconst 2, 1) := by decide +kernel
theorem dX7_init_87 : decode cX7_init 87 = .ok (.if_icmp .ge 22, 3) := by decide +kernel
theorem dX7_init_90 : decode cX7_init 90 = .ok (.aload_n 0, 1) := by decide +kernel
theorem dX7_init_91 : decode cX7_init 91 = .ok (.getfield 53, 3) := by decide +kernel
theorem dX7_init_94 : decode cX7_init 94 = .ok (.iload_n 1, 1) := by decide +kernel
theorem dX7_init_95 : decode cX7_init 95 = .ok (.new 51, 3) := by decide +kernel
theorem dX7_init_98 : decode cX7_init 98 = .ok (.dup, 1) := by decide +kernel
theorem dX7_init_99 : decode cX7_init 99 = .ok (.invokespecial 61, 3) := by decide +kernel
theorem dX7_init_102 : decode cX7_init 102 = .ok (.aastore, 1) := by decide +kernel
theorem dX7_init_103 : decode cX7_init 103 = .ok (.iinc 1 1, 3) := by decide +kernel
theorem dX7_init_106 : decode cX7_init 106 = .ok (.goto (-21), 3) := by decide +kernel
theorem dX7_init_109 : decode cX7_init 109 = .ok (.return_, 1) := by decide +kernel
theorem dX7_told_0 : decode cX7_told 0 = .ok (.iload_n 1, 1) := by decide +kernel
theorem dX7_told_1 : decode cX7_told 1 = .ok (.tableswitch 294 0 15 #[79, 87, 95, 103, 108, 121, 134, 147, 160, 179, 198, 206, 225, 244, 263, 286], 79) := by decide +kernel
theorem dX7_told_80 : decode cX7_told 80 = .ok (.aload_n 0, 1) := by decide +kernel
theorem dX7_told_81 : decode cX7_told 81 = .ok (.getfield 10, 3) := by decide +kernel
theorem dX7_told_84 : decode cX7_told 84 = .ok (.getfield 62, 3) := by decide +kernel
theorem dX7_told_87 : decode cX7_told 87 = .ok (.ireturn, 1) := by decide +kernel
theorem dX7_told_88 : decode cX7_told 88 = .ok (.aload_n 0, 1) := by decide +kernel
theorem dX7_told_89 : decode cX7_told 89 = .ok (.getfield 10, 3) := by decide +kernel
theorem dX7_told_92 : decode cX7_told 92 = .ok (.getfield 65, 3) := by decide +kernel
theorem dX7_told_95 : decode cX7_told 95 = .ok (.ireturn, 1) := by decide +kernel
theorem dX7_told_96 : decode cX7_told 96 = .ok (.aload_n 0, 1) := by decide +kernel
theorem dX7_told_97 : decode cX7_told 97 = .ok (.getfield 10, 3) := by decide +kernel
theorem dX7_told_100 : decode cX7_told 100 = .ok (.getfield 68, 3) := by decide +kernel
theorem dX7_told_103 : decode cX7_told 103 = .ok (.ireturn, 1) := by decide +kernel
theorem dX7_told_104 : decode cX7_told 104 = .ok (.aload_n 0, 1) := by decide +kernel
theorem dX7_told_105 : decode cX7_told 105 = .ok (.invokevirtual 71, 3) := by decide +kernel
theorem dX7_told_108 : decode cX7_told 108 = .ok (.ireturn, 1) := by decide +kernel
theorem dX7_told_109 : decode cX7_told 109 = .ok (.aload_n 0, 1) := by decide +kernel
theorem dX7_told_110 : decode cX7_told 110 = .ok (.getfield 10, 3) := by decide +kernel
theorem dX7_told_113 : decode cX7_told 113 = .ok (.getfield 62, 3) := by decide +kernel
theorem dX7_told_116 : decode cX7_told 116 = .ok (.aload_n 0, 1) := by decide +kernel
theorem dX7_told_117 : decode cX7_told 117 = .ok (.invokevirtual 71, 3) := by decide +kernel
theorem dX7_told_120 : decode cX7_told 120 = .ok (.isub, 1) := by decide +kernel
theorem dX7_told_121 : decode cX7_told 121 = .ok (.ireturn, 1) := by decide +kernel
theorem dX7_told_122 : decode cX7_told 122 = .ok (.aload_n 0, 1) := by decide +kernel
theorem dX7_told_123 : decode cX7_told 123 = .ok (.getfield 10, 3) := by decide +kernel
theorem dX7_told_126 : decode cX7_told 126 = .ok (.getfield 65, 3) := by decide +kernel
theorem dX7_told_129 : decode cX7_told 129 = .ok (.aload_n 0, 1) := by decide +kernel
theorem dX7_told_130 : decode cX7_told 130 = .ok (.invokevirtual 71, 3) := by decide +kernel
theorem dX7_told_133 : decode cX7_told 133 = .ok (.isub, 1) := by decide +kernel
theorem dX7_told_134 : decode cX7_told 134 = .ok (.ireturn, 1) := by decide +kernel
theorem dX7_told_135 : decode cX7_told 135 = .ok (.aload_n 0, 1) := by decide +kernel
theorem dX7_told_136 : decode cX7_told 136 = .ok (.invokevirtual 71, 3) := by decide +kernel
theorem dX7_told_139 : decode cX7_told 139 = .ok (.pop, 1) := by decide +kernel
theorem dX7_told_140 : decode cX7_told 140 = .ok (.aload_n 0, 1) := by decide +kernel
theorem dX7_told_141 : decode cX7_told 141 = .ok (.getfield 26, 3) := by decide +kernel
theorem dX7_told_144 : decode cX7_told 144 = .ok (.invokevirtual 75, 3) := by decide +kernel
theorem dX7_told_147 : decode cX7_told 147 = .ok (.ireturn, 1) := by decide +kernel
theorem dX7_told_148 : decode cX7_told 148 = .ok (.aload_n 0, 1) := by decide +kernel
theorem dX7_told_149 : decode cX7_told 149 = .ok (.invokevirtual 71, 3) := by decide +kernel
theorem dX7_told_152 : decode cX7_told 152 = .ok (.pop, 1) := by decide +kernel
theorem dX7_told_153 : decode cX7_told 153 = .ok (.aload_n 0, 1) := by decide +kernel
theorem dX7_told_154 : decode cX7_told 154 = .ok (.getfield 26, 3) := by decide +kernel
theorem dX7_told_157 : decode cX7_told 157 = .ok (.invokevirtual 78, 3) := by decide +kernel
theorem dX7_told_160 : decode cX7_told 160 = .ok (.ireturn, 1) := by decide +kernel
theorem dX7_told_161 : decode cX7_told 161 = .ok (.aload_n 0, 1) := by decide +kernel
theorem dX7_told_162 : decode cX7_told 162 = .ok (.getfield 26, 3) := by decide +kernel
theorem dX7_told_165 : decode cX7_told 165 = .ok (.aload_n 0, 1) := by decide +kernel
theorem dX7_told_166 : decode cX7_told 166 = .ok (.getfield 10, 3) := by decide +kernel
theorem dX7_told_169 : decode cX7_told 169 = .ok (.invokevirtual 81, 3) := by decide +kernel
theorem dX7_told_172 : decode cX7_told 172 = .ok (.aload_n 0, 1) := by decide +kernel
theorem dX7_told_173 : decode cX7_told 173 = .ok (.getfield 26, 3) := by decide +kernel
theorem dX7_told_176 : decode cX7_told 176 = .ok (.invokevirtual 85, 3) := by decide +kernel
theorem dX7_told_179 : decode cX7_told 179 = .ok (.ireturn, 1) := by decide +kernel
theorem dX7_told_180 : decode cX7_told 180 = .ok (.aload_n 0, 1) := by decide +kernel
theorem dX7_told_181 : decode cX7_told 181 = .ok (.getfield 26, 3) := by decide +kernel
theorem dX7_told_184 : decode cX7_told 184 = .ok (.aload_n 0, 1) := by decide +kernel
theorem dX7_told_185 : decode cX7_told 185 = .ok (.getfield 10, 3) := by decide +kernel
theorem dX7_told_188 : decode cX7_told 188 = .ok (.invokevirtual 81, 3) := by decide +kernel
theorem dX7_told_191 : decode cX7_told 191 = .ok (.aload_n 0, 1) := by decide +kernel
theorem dX7_told_192 : decode cX7_told 192 = .ok (.getfield 26, 3) := by decide +kernel
theorem dX7_told_195 : decode cX7_told 195 = .ok (.invokevirtual 88, 3) := by decide +kernel
theorem dX7_told_198 : decode cX7_told 198 = .ok (.ireturn, 1) := by decide +kernel
theorem dX7_told_199 : decode cX7_told 199 = .ok (.aload_n 0, 1) := by decide +kernel
theorem dX7_told_200 : decode cX7_told 200 = .ok (.getfield 47, 3) := by decide +kernel
theorem dX7_told_203 : decode cX7_told 203 = .ok (.getfield 91, 3) := by decide +kernel
theorem dX7_told_206 : decode cX7_told 206 = .ok (.ireturn, 1) := by decide +kernel
theorem dX7_told_207 : decode cX7_told 207 = .ok (.aload_n 0, 1) := by decide +kernel
theorem dX7_told_208 : decode cX7_told 208 = .ok (.getfield 47, 3) := by decide +kernel
theorem dX7_told_211 : decode cX7_told 211 = .ok (.aload_n 0, 1) := by decide +kernel
theorem dX7_told_212 : decode cX7_told 212 = .ok (.getfield 10, 3) := by decide +kernel
theorem dX7_told_215 : decode cX7_told 215 = .ok (.invokevirtual 94, 3) := by decide +kernel
theorem dX7_told_218 : decode cX7_told 218 = .ok (.aload_n 0, 1) := by decide +kernel
theorem dX7_told_219 : decode cX7_told 219 = .ok (.getfield 47, 3) := by decide +kernel
theorem dX7_told_222 : decode cX7_told 222 = .ok (.invokevirtual 97, 3) := by decide +kernel
theorem dX7_told_225 : decode cX7_told 225 = .ok (.ireturn, 1) := by decide +kernel
end
section
theorem dX7_told_226 : decode cX7_told 226 = .ok (.aload_n 0, 1) := by decide +kernel
theorem dX7_told_227 : decode cX7_told 227 = .ok (.getfield 47, 3) := by decide +kernel
theorem dX7_told_230 : decode cX7_told 230 = .ok (.aload_n 0, 1) := by decide +kernel
theorem dX7_told_231 : decode cX7_told 231 = .ok (.getfield 10, 3) := by decide +kernel
theorem dX7_told_234 : decode cX7_told 234 = .ok (.invokevirtual 94, 3) := by decide +kernel
theorem dX7_told_237 : decode cX7_told 237 = .ok (.aload_n 0, 1) := by decide +kernel
theorem dX7_told_238 : decode cX7_told 238 = .ok (.getfield 47, 3) := by decide +kernel
theorem dX7_told_241 : decode cX7_told 241 = .ok (.invokevirtual 100, 3) := by decide +kernel
theorem dX7_told_244 : decode cX7_told 244 = .ok (.ireturn, 1) := by decide +kernel
theorem dX7_told_245 : decode cX7_told 245 = .ok (.aload_n 0, 1) := by decide +kernel
theorem dX7_told_246 : decode cX7_told 246 = .ok (.getfield 47, 3) := by decide +kernel
theorem dX7_told_249 : decode cX7_told 249 = .ok (.aload_n 0, 1) := by decide +kernel
theorem dX7_told_250 : decode cX7_told 250 = .ok (.getfield 10, 3) := by decide +kernel
theorem dX7_told_253 : decode cX7_told 253 = .ok (.invokevirtual 94, 3) := by decide +kernel
theorem dX7_told_256 : decode cX7_told 256 = .ok (.aload_n 0, 1) := by decide +kernel
theorem dX7_told_257 : decode cX7_told 257 = .ok (.getfield 47, 3) := by decide +kernel
theorem dX7_told_260 : decode cX7_told 260 = .ok (.invokevirtual 103, 3) := by decide +kernel
theorem dX7_told_263 : decode cX7_told 263 = .ok (.ireturn, 1) := by decide +kernel
theorem dX7_told_264 : decode cX7_told 264 = .ok (.aload_n 0, 1) := by decide +kernel
theorem dX7_told_265 : decode cX7_told 265 = .ok (.getfield 47, 3) := by decide +kernel
theorem dX7_told_268 : decode cX7_told 268 = .ok (.aload_n 0, 1) := by decide +kernel
theorem dX7_told_269 : decode cX7_told 269 = .ok (.getfield 10, 3) := by decide +kernel
theorem dX7_told_272 : decode cX7_told 272 = .ok (.invokevirtual 94, 3) := by decide +kernel
theorem dX7_told_275 : decode cX7_told 275 = .ok (.aload_n 0, 1) := by decide +kernel
theorem dX7_told_276 : decode cX7_told 276 = .ok (.getfield 47, 3) := by decide +kernel
theorem dX7_told_279 : decode cX7_told 279 = .ok (.aload_n 0, 1) := by decide +kernel
theorem dX7_told_280 : decode cX7_told 280 = .ok (.getfield 10, 3) := by decide +kernel
theorem dX7_told_283 : decode cX7_told 283 = .ok (.invokevirtual 106, 3) := by decide +kernel
theorem dX7_told_286 : decode cX7_told 286 = .ok (.ireturn, 1) := by decide +kernel
theorem dX7_told_287 : decode cX7_told 287 = .ok (.aload_n 0, 1) := by decide +kernel
theorem dX7_told_288 : decode cX7_told 288 = .ok (.getfield 19, 3) := by decide +kernel
theorem dX7_told_291 : decode cX7_told 291 = .ok (.getfield 110, 3) := by decide +kernel
theorem dX7_told_294 : decode cX7_told 294 = .ok (.ireturn, 1) := by decide +kernel
theorem dX7_told_295 : decode cX7_told 295 = .ok (.ldc 113, 2) := by decide +kernel
theorem dX7_told_297 : decode cX7_told 297 = .ok (.ireturn, 1) := by decide +kernel
theorem dX7_shaftAt_0 : decode cX7_shaftAt 0 = .ok (.iload_n 1, 1) := by decide +kernel
theorem dX7_shaftAt_1 : decode cX7_shaftAt 1 = .ok (.aload_n 0, 1) := by decide +kernel
theorem dX7_shaftAt_2 : decode cX7_shaftAt 2 = .ok (.getfield 10, 3) := by decide +kernel
theorem dX7_shaftAt_5 : decode cX7_shaftAt 5 = .ok (.getfield 62, 3) := by decide +kernel
theorem dX7_shaftAt_8 : decode cX7_shaftAt 8 = .ok (.invokestatic 114, 3) := by decide +kernel
theorem dX7_shaftAt_11 : decode cX7_shaftAt 11 = .ok (.ifCond .ne 6, 3) := by decide +kernel
theorem dX7_shaftAt_14 : decode cX7_shaftAt 14 = .ok (.ldc 118, 2) := by decide +kernel
theorem dX7_shaftAt_16 : decode cX7_shaftAt 16 = .ok (.ireturn, 1) := by decide +kernel
theorem dX7_shaftAt_17 : decode cX7_shaftAt 17 = .ok (.iload_n 2, 1) := by decide +kernel
theorem dX7_shaftAt_18 : decode cX7_shaftAt 18 = .ok (.tableswitch 130 0 5 #[38, 51, 64, 79, 96, 113], 38) := by decide +kernel
theorem dX7_shaftAt_56 : decode cX7_shaftAt 56 = .ok (.aload_n 0, 1) := by decide +kernel
theorem dX7_shaftAt_57 : decode cX7_shaftAt 57 = .ok (.getfield 10, 3) := by decide +kernel
theorem dX7_shaftAt_60 : decode cX7_shaftAt 60 = .ok (.getfield 119, 3) := by decide +kernel
theorem dX7_shaftAt_63 : decode cX7_shaftAt 63 = .ok (.iload_n 1, 1) := by decide +kernel
theorem dX7_shaftAt_64 : decode cX7_shaftAt 64 = .ok (.iaload, 1) := by decide +kernel
theorem dX7_shaftAt_65 : decode cX7_shaftAt 65 = .ok (.invokestatic 123, 3) := by decide +kernel
theorem dX7_shaftAt_68 : decode cX7_shaftAt 68 = .ok (.ireturn, 1) := by decide +kernel
theorem dX7_shaftAt_69 : decode cX7_shaftAt 69 = .ok (.aload_n 0, 1) := by decide +kernel
theorem dX7_shaftAt_70 : decode cX7_shaftAt 70 = .ok (.getfield 10, 3) := by decide +kernel
theorem dX7_shaftAt_73 : decode cX7_shaftAt 73 = .ok (.getfield 119, 3) := by decide +kernel
theorem dX7_shaftAt_76 : decode cX7_shaftAt 76 = .ok (.iload_n 1, 1) := by decide +kernel
theorem dX7_shaftAt_77 : decode cX7_shaftAt 77 = .ok (.iaload, 1) := by decide +kernel
theorem dX7_shaftAt_78 : decode cX7_shaftAt 78 = .ok (.invokestatic 127, 3) := by decide +kernel
theorem dX7_shaftAt_81 : decode cX7_shaftAt 81 = .ok (.ireturn, 1) := by decide +kernel
theorem dX7_shaftAt_82 : decode cX7_shaftAt 82 = .ok (.aload_n 0, 1) := by decide +kernel
theorem dX7_shaftAt_83 : decode cX7_shaftAt 83 = .ok (.invokevirtual 71, 3) := by decide +kernel
theorem dX7_shaftAt_86 : decode cX7_shaftAt 86 = .ok (.pop, 1) := by decide +kernel
theorem dX7_shaftAt_87 : decode cX7_shaftAt 87 = .ok (.aload_n 0, 1) := by decide +kernel
theorem dX7_shaftAt_88 : decode cX7_shaftAt 88 = .ok (.getfield 26, 3) := by decide +kernel
theorem dX7_shaftAt_91 : decode cX7_shaftAt 91 = .ok (.getfield 130, 3) := by decide +kernel
theorem dX7_shaftAt_94 : decode cX7_shaftAt 94 = .ok (.iload_n 1, 1) := by decide +kernel
theorem dX7_shaftAt_95 : decode cX7_shaftAt 95 = .ok (.iaload, 1) := by decide +kernel
theorem dX7_shaftAt_96 : decode cX7_shaftAt 96 = .ok (.ireturn, 1) := by decide +kernel
theorem dX7_shaftAt_97 : decode cX7_shaftAt 97 = .ok (.aload_n 0, 1) := by decide +kernel
theorem dX7_shaftAt_98 : decode cX7_shaftAt 98 = .ok (.getfield 10, 3) := by decide +kernel
theorem dX7_shaftAt_101 : decode cX7_shaftAt 101 = .ok (.aload_n 0, 1) := by decide +kernel
theorem dX7_shaftAt_102 : decode cX7_shaftAt 102 = .ok (.getfield 10, 3) := by decide +kernel
theorem dX7_shaftAt_105 : decode cX7_shaftAt 105 = .ok (.getfield 119, 3) := by decide +kernel
theorem dX7_shaftAt_108 : decode cX7_shaftAt 108 = .ok (.iload_n 1, 1) := by decide +kernel
theorem dX7_shaftAt_109 : decode cX7_shaftAt 109 = .ok (.iaload, 1) := by decide +kernel
theorem dX7_shaftAt_110 : decode cX7_shaftAt 110 = .ok (.invokevirtual 133, 3) := by decide +kernel
theorem dX7_shaftAt_113 : decode cX7_shaftAt 113 = .ok (.ireturn, 1) := by decide +kernel
theorem dX7_shaftAt_114 : decode cX7_shaftAt 114 = .ok (.aload_n 0, 1) := by decide +kernel
theorem dX7_shaftAt_115 : decode cX7_shaftAt 115 = .ok (.getfield 10, 3) := by decide +kernel
theorem dX7_shaftAt_118 : decode cX7_shaftAt 118 = .ok (.aload_n 0, 1) := by decide +kernel
theorem dX7_shaftAt_119 : decode cX7_shaftAt 119 = .ok (.getfield 10, 3) := by decide +kernel
theorem dX7_shaftAt_122 : decode cX7_shaftAt 122 = .ok (.getfield 119, 3) := by decide +kernel
theorem dX7_shaftAt_125 : decode cX7_shaftAt 125 = .ok (.iload_n 1, 1) := by decide +kernel
theorem dX7_shaftAt_126 : decode cX7_shaftAt 126 = .ok (.iaload, 1) := by decide +kernel
theorem dX7_shaftAt_127 : decode cX7_shaftAt 127 = .ok (.invokevirtual 136, 3) := by decide +kernel
theorem dX7_shaftAt_130 : decode cX7_shaftAt 130 = .ok (.ireturn, 1) := by decide +kernel
theorem dX7_shaftAt_131 : decode cX7_shaftAt 131 = .ok (.aload_n 0, 1) := by decide +kernel
theorem dX7_shaftAt_132 : decode cX7_shaftAt 132 = .ok (.getfield 10, 3) := by decide +kernel
theorem dX7_shaftAt_135 : decode cX7_shaftAt 135 = .ok (.aload_n 0, 1) := by decide +kernel
theorem dX7_shaftAt_136 : decode cX7_shaftAt 136 = .ok (.getfield 10, 3) := by decide +kernel
theorem dX7_shaftAt_139 : decode cX7_shaftAt 139 = .ok (.getfield 119, 3) := by decide +kernel
theorem dX7_shaftAt_142 : decode cX7_shaftAt 142 = .ok (.iload_n 1, 1) := by decide +kernel
theorem dX7_shaftAt_143 : decode cX7_shaftAt 143 = .ok (.iaload, 1) := by decide +kernel
theorem dX7_shaftAt_144 : decode cX7_shaftAt 144 = .ok (.invokevirtual 139, 3) := by decide +kernel
theorem dX7_shaftAt_147 : decode cX7_shaftAt 147 = .ok (.ireturn, 1) := by decide +kernel
theorem dX7_shaftAt_148 : decode cX7_shaftAt 148 = .ok (.ldc 113, 2) := by decide +kernel
theorem dX7_shaftAt_150 : decode cX7_shaftAt 150 = .ok (.ireturn, 1) := by decide +kernel
theorem dX7_boreAt_0 : decode cX7_boreAt 0 = .ok (.iload_n 1, 1) := by decide +kernel
theorem dX7_boreAt_1 : decode cX7_boreAt 1 = .ok (.aload_n 0, 1) := by decide +kernel
theorem dX7_boreAt_2 : decode cX7_boreAt 2 = .ok (.getfield 10, 3) := by decide +kernel
theorem dX7_boreAt_5 : decode cX7_boreAt 5 = .ok (.getfield 65, 3) := by decide +kernel
theorem dX7_boreAt_8 : decode cX7_boreAt 8 = .ok (.invokestatic 114, 3) := by decide +kernel
theorem dX7_boreAt_11 : decode cX7_boreAt 11 = .ok (.ifCond .ne 6, 3) := by decide +kernel
theorem dX7_boreAt_14 : decode cX7_boreAt 14 = .ok (.ldc 118, 2) := by decide +kernel
theorem dX7_boreAt_16 : decode cX7_boreAt 16 = .ok (.ireturn, 1) := by decide +kernel
theorem dX7_boreAt_17 : decode cX7_boreAt 17 = .ok (.iload_n 2, 1) := by decide +kernel
theorem dX7_boreAt_18 : decode cX7_boreAt 18 = .ok (.tableswitch 95 0 3 #[30, 43, 58, 78], 30) := by decide +kernel
theorem dX7_boreAt_48 : decode cX7_boreAt 48 = .ok (.aload_n 0, 1) := by decide +kernel
theorem dX7_boreAt_49 : decode cX7_boreAt 49 = .ok (.getfield 10, 3) := by decide +kernel
theorem dX7_boreAt_52 : decode cX7_boreAt 52 = .ok (.getfield 142, 3) := by decide +kernel
theorem dX7_boreAt_55 : decode cX7_boreAt 55 = .ok (.iload_n 1, 1) := by decide +kernel
theorem dX7_boreAt_56 : decode cX7_boreAt 56 = .ok (.iaload, 1) := by decide +kernel
theorem dX7_boreAt_57 : decode cX7_boreAt 57 = .ok (.invokestatic 127, 3) := by decide +kernel
theorem dX7_boreAt_60 : decode cX7_boreAt 60 = .ok (.ireturn, 1) := by decide +kernel
theorem dX7_boreAt_61 : decode cX7_boreAt 61 = .ok (.aload_n 0, 1) := by decide +kernel
theorem dX7_boreAt_62 : decode cX7_boreAt 62 = .ok (.invokevirtual 71, 3) := by decide +kernel
theorem dX7_boreAt_65 : decode cX7_boreAt 65 = .ok (.pop, 1) := by decide +kernel
theorem dX7_boreAt_66 : decode cX7_boreAt 66 = .ok (.aload_n 0, 1) := by decide +kernel
theorem dX7_boreAt_67 : decode cX7_boreAt 67 = .ok (.getfield 26, 3) := by decide +kernel
theorem dX7_boreAt_70 : decode cX7_boreAt 70 = .ok (.getfield 145, 3) := by decide +kernel
theorem dX7_boreAt_73 : decode cX7_boreAt 73 = .ok (.iload_n 1, 1) := by decide +kernel
theorem dX7_boreAt_74 : decode cX7_boreAt 74 = .ok (.iaload, 1) := by decide +kernel
theorem dX7_boreAt_75 : decode cX7_boreAt 75 = .ok (.ireturn, 1) := by decide +kernel
theorem dX7_boreAt_76 : decode cX7_boreAt 76 = .ok (.aload_n 0, 1) := by decide +kernel
theorem dX7_boreAt_77 : decode cX7_boreAt 77 = .ok (.getfield 10, 3) := by decide +kernel
theorem dX7_boreAt_80 : decode cX7_boreAt 80 = .ok (.aload_n 0, 1) := by decide +kernel
theorem dX7_boreAt_81 : decode cX7_boreAt 81 = .ok (.getfield 10, 3) := by decide +kernel
theorem dX7_boreAt_84 : decode cX7_boreAt 84 = .ok (.getfield 142, 3) := by decide +kernel
theorem dX7_boreAt_87 : decode cX7_boreAt 87 = .ok (.iload_n 1, 1) := by decide +kernel
theorem dX7_boreAt_88 : decode cX7_boreAt 88 = .ok (.iaload, 1) := by decide +kernel
theorem dX7_boreAt_89 : decode cX7_boreAt 89 = .ok (.invokestatic 127, 3) := by decide +kernel
theorem dX7_boreAt_92 : decode cX7_boreAt 92 = .ok (.invokevirtual 148, 3) := by decide +kernel
theorem dX7_boreAt_95 : decode cX7_boreAt 95 = .ok (.ireturn, 1) := by decide +kernel
theorem dX7_boreAt_96 : decode cX7_boreAt 96 = .ok (.aload_n 0, 1) := by decide +kernel
theorem dX7_boreAt_97 : decode cX7_boreAt 97 = .ok (.getfield 10, 3) := by decide +kernel
theorem dX7_boreAt_100 : decode cX7_boreAt 100 = .ok (.aload_n 0, 1) := by decide +kernel
theorem dX7_boreAt_101 : decode cX7_boreAt 101 = .ok (.getfield 10, 3) := by decide +kernel
theorem dX7_boreAt_104 : decode cX7_boreAt 104 = .ok (.getfield 142, 3) := by decide +kernel
theorem dX7_boreAt_107 : decode cX7_boreAt 107 = .ok (.iload_n 1, 1) := by decide +kernel
theorem dX7_boreAt_108 : decode cX7_boreAt 108 = .ok (.iaload, 1) := by decide +kernel
theorem dX7_boreAt_109 : decode cX7_boreAt 109 = .ok (.invokevirtual 139, 3) := by decide +kernel
theorem dX7_boreAt_112 : decode cX7_boreAt 112 = .ok (.ireturn, 1) := by decide +kernel
theorem dX7_boreAt_113 : decode cX7_boreAt 113 = .ok (.ldc 113, 2) := by decide +kernel
theorem dX7_boreAt_115 : decode cX7_boreAt 115 = .ok (.ireturn, 1) := by decide +kernel
theorem dX7_gradeAt_0 : decode cX7_gradeAt 0 = .ok (.iload_n 1, 1) := by decide +kernel
theorem dX7_gradeAt_1 : decode cX7_gradeAt 1 = .ok (.iconst 4, 1) := by decide +kernel
theorem dX7_gradeAt_2 : decode cX7_gradeAt 2 = .ok (.invokestatic 114, 3) := by decide +kernel
theorem dX7_gradeAt_5 : decode cX7_gradeAt 5 = .ok (.ifCond .ne 6, 3) := by decide +kernel
theorem dX7_gradeAt_8 : decode cX7_gradeAt 8 = .ok (.ldc 118, 2) := by decide +kernel
theorem dX7_gradeAt_10 : decode cX7_gradeAt 10 = .ok (.ireturn, 1) := by decide +kernel
theorem dX7_gradeAt_11 : decode cX7_gradeAt 11 = .ok (.iload_n 2, 1) := by decide +kernel
theorem dX7_gradeAt_12 : decode cX7_gradeAt 12 = .ok (.tableswitch 57 0 2 #[28, 38, 48], 28) := by decide +kernel
theorem dX7_gradeAt_40 : decode cX7_gradeAt 40 = .ok (.aload_n 0, 1) := by decide +kernel
theorem dX7_gradeAt_41 : decode cX7_gradeAt 41 = .ok (.getfield 10, 3) := by decide +kernel
theorem dX7_gradeAt_44 : decode cX7_gradeAt 44 = .ok (.getfield 151, 3) := by decide +kernel
theorem dX7_gradeAt_47 : decode cX7_gradeAt 47 = .ok (.iload_n 1, 1) := by decide +kernel
theorem dX7_gradeAt_48 : decode cX7_gradeAt 48 = .ok (.iaload, 1) := by decide +kernel
theorem dX7_gradeAt_49 : decode cX7_gradeAt 49 = .ok (.ireturn, 1) := by decide +kernel
theorem dX7_gradeAt_50 : decode cX7_gradeAt 50 = .ok (.aload_n 0, 1) := by decide +kernel
theorem dX7_gradeAt_51 : decode cX7_gradeAt 51 = .ok (.getfield 10, 3) := by decide +kernel
theorem dX7_gradeAt_54 : decode cX7_gradeAt 54 = .ok (.getfield 154, 3) := by decide +kernel
theorem dX7_gradeAt_57 : decode cX7_gradeAt 57 = .ok (.iload_n 1, 1) := by decide +kernel
theorem dX7_gradeAt_58 : decode cX7_gradeAt 58 = .ok (.iaload, 1) := by decide +kernel
theorem dX7_gradeAt_59 : decode cX7_gradeAt 59 = .ok (.ireturn, 1) := by decide +kernel
theorem dX7_gradeAt_60 : decode cX7_gradeAt 60 = .ok (.aload_n 0, 1) := by decide +kernel
theorem dX7_gradeAt_61 : decode cX7_gradeAt 61 = .ok (.getfield 10, 3) := by decide +kernel
theorem dX7_gradeAt_64 : decode cX7_gradeAt 64 = .ok (.iload_n 1, 1) := by decide +kernel
theorem dX7_gradeAt_65 : decode cX7_gradeAt 65 = .ok (.invokevirtual 157, 3) := by decide +kernel
theorem dX7_gradeAt_68 : decode cX7_gradeAt 68 = .ok (.ireturn, 1) := by decide +kernel
theorem dX7_gradeAt_69 : decode cX7_gradeAt 69 = .ok (.ldc 113, 2) := by decide +kernel
theorem dX7_gradeAt_71 : decode cX7_gradeAt 71 = .ok (.ireturn, 1) := by decide +kernel
theorem dX7_sort_0 : decode cX7_sort 0 = .ok (.iload_n 1, 1) := by decide +kernel
theorem dX7_sort_1 : decode cX7_sort 1 = .ok (.aload_n 0, 1) := by decide +kernel
theorem dX7_sort_2 : decode cX7_sort 2 = .ok (.getfield 10, 3) := by decide +kernel
theorem dX7_sort_5 : decode cX7_sort 5 = .ok (.getfield 68, 3) := by decide +kernel
theorem dX7_sort_8 : decode cX7_sort 8 = .ok (.invokestatic 114, 3) := by decide +kernel
theorem dX7_sort_11 : decode cX7_sort 11 = .ok (.ifCond .ne 6, 3) := by decide +kernel
theorem dX7_sort_14 : decode cX7_sort 14 = .ok (.ldc 118, 2) := by decide +kernel
theorem dX7_sort_16 : decode cX7_sort 16 = .ok (.ireturn, 1) := by decide +kernel
theorem dX7_sort_17 : decode cX7_sort 17 = .ok (.iload_n 2, 1) := by decide +kernel
theorem dX7_sort_18 : decode cX7_sort 18 = .ok (.tableswitch 83 0 3 #[30, 43, 56, 73], 30) := by decide +kernel
theorem dX7_sort_48 : decode cX7_sort 48 = .ok (.aload_n 0, 1) := by decide +kernel
theorem dX7_sort_49 : decode cX7_sort 49 = .ok (.getfield 10, 3) := by decide +kernel
theorem dX7_sort_52 : decode cX7_sort 52 = .ok (.getfield 160, 3) := by decide +kernel
theorem dX7_sort_55 : decode cX7_sort 55 = .ok (.iload_n 1, 1) := by decide +kernel
theorem dX7_sort_56 : decode cX7_sort 56 = .ok (.iaload, 1) := by decide +kernel
theorem dX7_sort_57 : decode cX7_sort 57 = .ok (.invokestatic 123, 3) := by decide +kernel
theorem dX7_sort_60 : decode cX7_sort 60 = .ok (.ireturn, 1) := by decide +kernel
theorem dX7_sort_61 : decode cX7_sort 61 = .ok (.aload_n 0, 1) := by decide +kernel
theorem dX7_sort_62 : decode cX7_sort 62 = .ok (.getfield 10, 3) := by decide +kernel
theorem dX7_sort_65 : decode cX7_sort 65 = .ok (.getfield 160, 3) := by decide +kernel
theorem dX7_sort_68 : decode cX7_sort 68 = .ok (.iload_n 1, 1) := by decide +kernel
theorem dX7_sort_69 : decode cX7_sort 69 = .ok (.iaload, 1) := by decide +kernel
theorem dX7_sort_70 : decode cX7_sort 70 = .ok (.invokestatic 127, 3) := by decide +kernel
theorem dX7_sort_73 : decode cX7_sort 73 = .ok (.ireturn, 1) := by decide +kernel
theorem dX7_sort_74 : decode cX7_sort 74 = .ok (.aload_n 0, 1) := by decide +kernel
theorem dX7_sort_75 : decode cX7_sort 75 = .ok (.getfield 10, 3) := by decide +kernel
theorem dX7_sort_78 : decode cX7_sort 78 = .ok (.aload_n 0, 1) := by decide +kernel
theorem dX7_sort_79 : decode cX7_sort 79 = .ok (.getfield 10, 3) := by decide +kernel
theorem dX7_sort_82 : decode cX7_sort 82 = .ok (.getfield 160, 3) := by decide +kernel
theorem dX7_sort_85 : decode cX7_sort 85 = .ok (.iload_n 1, 1) := by decide +kernel
theorem dX7_sort_86 : decode cX7_sort 86 = .ok (.iaload, 1) := by decide +kernel
theorem dX7_sort_87 : decode cX7_sort 87 = .ok (.invokevirtual 163, 3) := by decide +kernel
theorem dX7_sort_90 : decode cX7_sort 90 = .ok (.ireturn, 1) := by decide +kernel
theorem dX7_sort_91 : decode cX7_sort 91 = .ok (.aload_n 0, 1) := by decide +kernel
theorem dX7_sort_92 : decode cX7_sort 92 = .ok (.getfield 10, 3) := by decide +kernel
theorem dX7_sort_95 : decode cX7_sort 95 = .ok (.getfield 166, 3) := by decide +kernel
theorem dX7_sort_98 : decode cX7_sort 98 = .ok (.iload_n 1, 1) := by decide +kernel
theorem dX7_sort_99 : decode cX7_sort 99 = .ok (.iaload, 1) := by decide +kernel
theorem dX7_sort_100 : decode cX7_sort 100 = .ok (.ireturn, 1) := by decide +kernel
theorem dX7_sort_101 : decode cX7_sort 101 = .ok (.ldc 113, 2) := by decide +kernel
theorem dX7_sort_103 : decode cX7_sort 103 = .ok (.ireturn, 1) := by decide +kernel
theorem dX7_find_0 : decode cX7_find 0 = .ok (.iload_n 1, 1) := by decide +kernel
theorem dX7_find_1 : decode cX7_find 1 = .ok (.iconst 5, 1) := by decide +kernel
theorem dX7_find_2 : decode cX7_find 2 = .ok (.invokestatic 114, 3) := by decide +kernel
theorem dX7_find_5 : decode cX7_find 5 = .ok (.ifCond .eq 13, 3) := by decide +kernel
theorem dX7_find_8 : decode cX7_find 8 = .ok (.iload_n 2, 1) := by decide +kernel
theorem dX7_find_9 : decode cX7_find 9 = .ok (.sipush 10000, 3) := by decide +kernel
theorem dX7_find_12 : decode cX7_find 12 = .ok (.invokestatic 114, 3) := by decide +kernel
theorem dX7_find_15 : decode cX7_find 15 = .ok (.ifCond .ne 6, 3) := by decide +kernel
theorem dX7_find_18 : decode cX7_find 18 = .ok (.ldc 113, 2) := by decide +kernel
theorem dX7_find_20 : decode cX7_find 20 = .ok (.ireturn, 1) := by decide +kernel
theorem dX7_find_21 : decode cX7_find 21 = .ok (.aload_n 0, 1) := by decide +kernel
theorem dX7_find_22 : decode cX7_find 22 = .ok (.getfield 10, 3) := by decide +kernel
theorem dX7_find_25 : decode cX7_find 25 = .ok (.iload_n 1, 1) := by decide +kernel
theorem dX7_find_26 : decode cX7_find 26 = .ok (.iload_n 2, 1) := by decide +kernel
theorem dX7_find_27 : decode cX7_find 27 = .ok (.invokestatic 169, 3) := by decide +kernel
theorem dX7_find_30 : decode cX7_find 30 = .ok (.invokevirtual 139, 3) := by decide +kernel
theorem dX7_find_33 : decode cX7_find 33 = .ok (.ireturn, 1) := by decide +kernel
theorem dX7_shaft_0 : decode cX7_shaft 0 = .ok (.iload_n 1, 1) := by decide +kernel
theorem dX7_shaft_1 : decode cX7_shaft 1 = .ok (.iconst 4, 1) := by decide +kernel
theorem dX7_shaft_2 : decode cX7_shaft 2 = .ok (.invokestatic 114, 3) := by decide +kernel
theorem dX7_shaft_5 : decode cX7_shaft 5 = .ok (.ifCond .ne 6, 3) := by decide +kernel
theorem dX7_shaft_8 : decode cX7_shaft 8 = .ok (.ldc 118, 2) := by decide +kernel
theorem dX7_shaft_10 : decode cX7_shaft 10 = .ok (.ireturn, 1) := by decide +kernel
theorem dX7_shaft_11 : decode cX7_shaft 11 = .ok (.iload_n 2, 1) := by decide +kernel
theorem dX7_shaft_12 : decode cX7_shaft 12 = .ok (.sipush 10000, 3) := by decide +kernel
theorem dX7_shaft_15 : decode cX7_shaft 15 = .ok (.invokestatic 114, 3) := by decide +kernel
theorem dX7_shaft_18 : decode cX7_shaft 18 = .ok (.ifCond .ne 6, 3) := by decide +kernel
theorem dX7_shaft_21 : decode cX7_shaft 21 = .ok (.ldc 113, 2) := by decide +kernel
theorem dX7_shaft_23 : decode cX7_shaft 23 = .ok (.ireturn, 1) := by decide +kernel
theorem dX7_shaft_24 : decode cX7_shaft 24 = .ok (.aload_n 0, 1) := by decide +kernel
theorem dX7_shaft_25 : decode cX7_shaft 25 = .ok (.iload_n 1, 1) := by decide +kernel
theorem dX7_shaft_26 : decode cX7_shaft 26 = .ok (.iload_n 2, 1) := by decide +kernel
theorem dX7_shaft_27 : decode cX7_shaft 27 = .ok (.invokestatic 169, 3) := by decide +kernel
theorem dX7_shaft_30 : decode cX7_shaft 30 = .ok (.invokevirtual 173, 3) := by decide +kernel
theorem dX7_shaft_33 : decode cX7_shaft 33 = .ok (.ireturn, 1) := by decide +kernel
theorem dX7_bore_0 : decode cX7_bore 0 = .ok (.iload_n 1, 1) := by decide +kernel
theorem dX7_bore_1 : decode cX7_bore 1 = .ok (.sipush 10000, 3) := by decide +kernel
theorem dX7_bore_4 : decode cX7_bore 4 = .ok (.invokestatic 114, 3) := by decide +kernel
theorem dX7_bore_7 : decode cX7_bore 7 = .ok (.ifCond .ne 6, 3) := by decide +kernel
theorem dX7_bore_10 : decode cX7_bore 10 = .ok (.ldc 113, 2) := by decide +kernel
theorem dX7_bore_12 : decode cX7_bore 12 = .ok (.ireturn, 1) := by decide +kernel
theorem dX7_bore_13 : decode cX7_bore 13 = .ok (.aload_n 0, 1) := by decide +kernel
theorem dX7_bore_14 : decode cX7_bore 14 = .ok (.iconst 4, 1) := by decide +kernel
theorem dX7_bore_15 : decode cX7_bore 15 = .ok (.iload_n 1, 1) := by decide +kernel
theorem dX7_bore_16 : decode cX7_bore 16 = .ok (.invokestatic 169, 3) := by decide +kernel
theorem dX7_bore_19 : decode cX7_bore 19 = .ok (.invokevirtual 173, 3) := by decide +kernel
theorem dX7_bore_22 : decode cX7_bore 22 = .ok (.ireturn, 1) := by decide +kernel
theorem dX7_takeShaft_0 : decode cX7_takeShaft 0 = .ok (.iload_n 1, 1) := by decide +kernel
theorem dX7_takeShaft_1 : decode cX7_takeShaft 1 = .ok (.aload_n 0, 1) := by decide +kernel
theorem dX7_takeShaft_2 : decode cX7_takeShaft 2 = .ok (.getfield 10, 3) := by decide +kernel
theorem dX7_takeShaft_5 : decode cX7_takeShaft 5 = .ok (.getfield 62, 3) := by decide +kernel
theorem dX7_takeShaft_8 : decode cX7_takeShaft 8 = .ok (.invokestatic 114, 3) := by decide +kernel
theorem dX7_takeShaft_11 : decode cX7_takeShaft 11 = .ok (.ifCond .ne 6, 3) := by decide +kernel
theorem dX7_takeShaft_14 : decode cX7_takeShaft 14 = .ok (.ldc 118, 2) := by decide +kernel
theorem dX7_takeShaft_16 : decode cX7_takeShaft 16 = .ok (.ireturn, 1) := by decide +kernel
theorem dX7_takeShaft_17 : decode cX7_takeShaft 17 = .ok (.aload_n 0, 1) := by decide +kernel
theorem dX7_takeShaft_18 : decode cX7_takeShaft 18 = .ok (.getfield 19, 3) := by decide +kernel
theorem dX7_takeShaft_21 : decode cX7_takeShaft 21 = .ok (.aload_n 0, 1) := by decide +kernel
theorem dX7_takeShaft_22 : decode cX7_takeShaft 22 = .ok (.getfield 10, 3) := by decide +kernel
theorem dX7_takeShaft_25 : decode cX7_takeShaft 25 = .ok (.invokevirtual 176, 3) := by decide +kernel
theorem dX7_takeShaft_28 : decode cX7_takeShaft 28 = .ok (.aload_n 0, 1) := by decide +kernel
theorem dX7_takeShaft_29 : decode cX7_takeShaft 29 = .ok (.getfield 10, 3) := by decide +kernel
theorem dX7_takeShaft_32 : decode cX7_takeShaft 32 = .ok (.getfield 119, 3) := by decide +kernel
theorem dX7_takeShaft_35 : decode cX7_takeShaft 35 = .ok (.iload_n 1, 1) := by decide +kernel
theorem dX7_takeShaft_36 : decode cX7_takeShaft 36 = .ok (.iaload, 1) := by decide +kernel
theorem dX7_takeShaft_37 : decode cX7_takeShaft 37 = .ok (.invokestatic 127, 3) := by decide +kernel
theorem dX7_takeShaft_40 : decode cX7_takeShaft 40 = .ok (.istore_n 2, 1) := by decide +kernel
theorem dX7_takeShaft_41 : decode cX7_takeShaft 41 = .ok (.aload_n 0, 1) := by decide +kernel
theorem dX7_takeShaft_42 : decode cX7_takeShaft 42 = .ok (.getfield 10, 3) := by decide +kernel
theorem dX7_takeShaft_45 : decode cX7_takeShaft 45 = .ok (.iload_n 1, 1) := by decide +kernel
theorem dX7_takeShaft_46 : decode cX7_takeShaft 46 = .ok (.invokevirtual 179, 3) := by decide +kernel
theorem dX7_takeShaft_49 : decode cX7_takeShaft 49 = .ok (.iload_n 2, 1) := by decide +kernel
theorem dX7_takeShaft_50 : decode cX7_takeShaft 50 = .ok (.ireturn, 1) := by decide +kernel
theorem dX7_takeBore_0 : decode cX7_takeBore 0 = .ok (.iload_n 1, 1) := by decide +kernel
theorem dX7_takeBore_1 : decode cX7_takeBore 1 = .ok (.aload_n 0, 1) := by decide +kernel
theorem dX7_takeBore_2 : decode cX7_takeBore 2 = .ok (.getfield 10, 3) := by decide +kernel
theorem dX7_takeBore_5 : decode cX7_takeBore 5 = .ok (.getfield 65, 3) := by decide +kernel
theorem dX7_takeBore_8 : decode cX7_takeBore 8 = .ok (.invokestatic 114, 3) := by decide +kernel
theorem dX7_takeBore_11 : decode cX7_takeBore 11 = .ok (.ifCond .ne 6, 3) := by decide +kernel
theorem dX7_takeBore_14 : decode cX7_takeBore 14 = .ok (.ldc 118, 2) := by decide +kernel
theorem dX7_takeBore_16 : decode cX7_takeBore 16 = .ok (.ireturn, 1) := by decide +kernel
theorem dX7_takeBore_17 : decode cX7_takeBore 17 = .ok (.aload_n 0, 1) := by decide +kernel
theorem dX7_takeBore_18 : decode cX7_takeBore 18 = .ok (.getfield 19, 3) := by decide +kernel
theorem dX7_takeBore_21 : decode cX7_takeBore 21 = .ok (.aload_n 0, 1) := by decide +kernel
theorem dX7_takeBore_22 : decode cX7_takeBore 22 = .ok (.getfield 10, 3) := by decide +kernel
theorem dX7_takeBore_25 : decode cX7_takeBore 25 = .ok (.invokevirtual 176, 3) := by decide +kernel
theorem dX7_takeBore_28 : decode cX7_takeBore 28 = .ok (.aload_n 0, 1) := by decide +kernel
theorem dX7_takeBore_29 : decode cX7_takeBore 29 = .ok (.getfield 10, 3) := by decide +kernel
theorem dX7_takeBore_32 : decode cX7_takeBore 32 = .ok (.getfield 142, 3) := by decide +kernel
theorem dX7_takeBore_35 : decode cX7_takeBore 35 = .ok (.iload_n 1, 1) := by decide +kernel
theorem dX7_takeBore_36 : decode cX7_takeBore 36 = .ok (.iaload, 1) := by decide +kernel
theorem dX7_takeBore_37 : decode cX7_takeBore 37 = .ok (.invokestatic 127, 3) := by decide +kernel
theorem dX7_takeBore_40 : decode cX7_takeBore 40 = .ok (.istore_n 2, 1) := by decide +kernel
theorem dX7_takeBore_41 : decode cX7_takeBore 41 = .ok (.aload_n 0, 1) := by decide +kernel
theorem dX7_takeBore_42 : decode cX7_takeBore 42 = .ok (.getfield 10, 3) := by decide +kernel
theorem dX7_takeBore_45 : decode cX7_takeBore 45 = .ok (.iload_n 1, 1) := by decide +kernel
theorem dX7_takeBore_46 : decode cX7_takeBore 46 = .ok (.invokevirtual 183, 3) := by decide +kernel
theorem dX7_takeBore_49 : decode cX7_takeBore 49 = .ok (.iload_n 2, 1) := by decide +kernel
theorem dX7_takeBore_50 : decode cX7_takeBore 50 = .ok (.ireturn, 1) := by decide +kernel
theorem dX7_grade_0 : decode cX7_grade 0 = .ok (.iload_n 1, 1) := by decide +kernel
theorem dX7_grade_1 : decode cX7_grade 1 = .ok (.iconst 4, 1) := by decide +kernel
theorem dX7_grade_2 : decode cX7_grade 2 = .ok (.invokestatic 114, 3) := by decide +kernel
theorem dX7_grade_5 : decode cX7_grade 5 = .ok (.ifCond .ne 6, 3) := by decide +kernel
theorem dX7_grade_8 : decode cX7_grade 8 = .ok (.ldc 118, 2) := by decide +kernel
theorem dX7_grade_10 : decode cX7_grade 10 = .ok (.ireturn, 1) := by decide +kernel
theorem dX7_grade_11 : decode cX7_grade 11 = .ok (.iload_n 2, 1) := by decide +kernel
theorem dX7_grade_12 : decode cX7_grade 12 = .ok (.sipush 1000, 3) := by decide +kernel
theorem dX7_grade_15 : decode cX7_grade 15 = .ok (.invokestatic 114, 3) := by decide +kernel
theorem dX7_grade_18 : decode cX7_grade 18 = .ok (.ifCond .eq 18, 3) := by decide +kernel
theorem dX7_grade_21 : decode cX7_grade 21 = .ok (.iload_n 3, 1) := by decide +kernel
theorem dX7_grade_22 : decode cX7_grade 22 = .ok (.sipush 1000, 3) := by decide +kernel
theorem dX7_grade_25 : decode cX7_grade 25 = .ok (.invokestatic 114, 3) := by decide +kernel
theorem dX7_grade_28 : decode cX7_grade 28 = .ok (.ifCond .eq 8, 3) := by decide +kernel
theorem dX7_grade_31 : decode cX7_grade 31 = .ok (.iload_n 2, 1) := by decide +kernel
theorem dX7_grade_32 : decode cX7_grade 32 = .ok (.iload_n 3, 1) := by decide +kernel
theorem dX7_grade_33 : decode cX7_grade 33 = .ok (.if_icmp .le 6, 3) := by decide +kernel
theorem dX7_grade_36 : decode cX7_grade 36 = .ok (.ldc 113, 2) := by decide +kernel
theorem dX7_grade_38 : decode cX7_grade 38 = .ok (.ireturn, 1) := by decide +kernel
theorem dX7_grade_39 : decode cX7_grade 39 = .ok (.aload_n 0, 1) := by decide +kernel
theorem dX7_grade_40 : decode cX7_grade 40 = .ok (.getfield 19, 3) := by decide +kernel
theorem dX7_grade_43 : decode cX7_grade 43 = .ok (.aload_n 0, 1) := by decide +kernel
theorem dX7_grade_44 : decode cX7_grade 44 = .ok (.getfield 10, 3) := by decide +kernel
theorem dX7_grade_47 : decode cX7_grade 47 = .ok (.invokevirtual 176, 3) := by decide +kernel
theorem dX7_grade_50 : decode cX7_grade 50 = .ok (.aload_n 0, 1) := by decide +kernel
theorem dX7_grade_51 : decode cX7_grade 51 = .ok (.getfield 10, 3) := by decide +kernel
theorem dX7_grade_54 : decode cX7_grade 54 = .ok (.getfield 151, 3) := by decide +kernel
theorem dX7_grade_57 : decode cX7_grade 57 = .ok (.iload_n 1, 1) := by decide +kernel
theorem dX7_grade_58 : decode cX7_grade 58 = .ok (.iload_n 2, 1) := by decide +kernel
theorem dX7_grade_59 : decode cX7_grade 59 = .ok (.iastore, 1) := by decide +kernel
theorem dX7_grade_60 : decode cX7_grade 60 = .ok (.aload_n 0, 1) := by decide +kernel
theorem dX7_grade_61 : decode cX7_grade 61 = .ok (.getfield 10, 3) := by decide +kernel
theorem dX7_grade_64 : decode cX7_grade 64 = .ok (.getfield 154, 3) := by decide +kernel
theorem dX7_grade_67 : decode cX7_grade 67 = .ok (.iload_n 1, 1) := by decide +kernel
theorem dX7_grade_68 : decode cX7_grade 68 = .ok (.iload_n 3, 1) := by decide +kernel
theorem dX7_grade_69 : decode cX7_grade 69 = .ok (.iastore, 1) := by decide +kernel
theorem dX7_grade_70 : decode cX7_grade 70 = .ok (.aload_n 0, 1) := by decide +kernel
theorem dX7_grade_71 : decode cX7_grade 71 = .ok (.invokevirtual 71, 3) := by decide +kernel
theorem dX7_grade_74 : decode cX7_grade 74 = .ok (.ireturn, 1) := by decide +kernel
theorem dX7_putAway_0 : decode cX7_putAway 0 = .ok (.aload_n 0, 1) := by decide +kernel
theorem dX7_putAway_1 : decode cX7_putAway 1 = .ok (.invokevirtual 71, 3) := by decide +kernel
theorem dX7_putAway_4 : decode cX7_putAway 4 = .ok (.istore_n 1, 1) := by decide +kernel
theorem dX7_putAway_5 : decode cX7_putAway 5 = .ok (.iload_n 1, 1) := by decide +kernel
theorem dX7_putAway_6 : decode cX7_putAway 6 = .ok (.ifCond .ne 6, 3) := by decide +kernel
theorem dX7_putAway_9 : decode cX7_putAway 9 = .ok (.ldc 186, 2) := by decide +kernel
theorem dX7_putAway_11 : decode cX7_putAway 11 = .ok (.ireturn, 1) := by decide +kernel
theorem dX7_putAway_12 : decode cX7_putAway 12 = .ok (.aload_n 0, 1) := by decide +kernel
theorem dX7_putAway_13 : decode cX7_putAway 13 = .ok (.getfield 19, 3) := by decide +kernel
theorem dX7_putAway_16 : decode cX7_putAway 16 = .ok (.aload_n 0, 1) := by decide +kernel
theorem dX7_putAway_17 : decode cX7_putAway 17 = .ok (.getfield 10, 3) := by decide +kernel
theorem dX7_putAway_20 : decode cX7_putAway 20 = .ok (.invokevirtual 176, 3) := by decide +kernel
theorem dX7_putAway_23 : decode cX7_putAway 23 = .ok (.aload_n 0, 1) := by decide +kernel
theorem dX7_putAway_24 : decode cX7_putAway 24 = .ok (.getfield 10, 3) := by decide +kernel
theorem dX7_putAway_27 : decode cX7_putAway 27 = .ok (.getfield 62, 3) := by decide +kernel
theorem dX7_putAway_30 : decode cX7_putAway 30 = .ok (.iconst 1, 1) := by decide +kernel
theorem dX7_putAway_31 : decode cX7_putAway 31 = .ok (.isub, 1) := by decide +kernel
theorem dX7_putAway_32 : decode cX7_putAway 32 = .ok (.istore_n 2, 1) := by decide +kernel
theorem dX7_putAway_33 : decode cX7_putAway 33 = .ok (.iload_n 2, 1) := by decide +kernel
theorem dX7_putAway_34 : decode cX7_putAway 34 = .ok (.ifCond .lt 30, 3) := by decide +kernel
theorem dX7_putAway_37 : decode cX7_putAway 37 = .ok (.aload_n 0, 1) := by decide +kernel
theorem dX7_putAway_38 : decode cX7_putAway 38 = .ok (.getfield 26, 3) := by decide +kernel
theorem dX7_putAway_41 : decode cX7_putAway 41 = .ok (.getfield 130, 3) := by decide +kernel
theorem dX7_putAway_44 : decode cX7_putAway 44 = .ok (.iload_n 2, 1) := by decide +kernel
theorem dX7_putAway_45 : decode cX7_putAway 45 = .ok (.iaload, 1) := by decide +kernel
theorem dX7_putAway_46 : decode cX7_putAway 46 = .ok (.iconst (-1), 1) := by decide +kernel
theorem dX7_putAway_47 : decode cX7_putAway 47 = .ok (.if_icmp .eq 11, 3) := by decide +kernel
theorem dX7_putAway_50 : decode cX7_putAway 50 = .ok (.aload_n 0, 1) := by decide +kernel
theorem dX7_putAway_51 : decode cX7_putAway 51 = .ok (.getfield 10, 3) := by decide +kernel
theorem dX7_putAway_54 : decode cX7_putAway 54 = .ok (.iload_n 2, 1) := by decide +kernel
theorem dX7_putAway_55 : decode cX7_putAway 55 = .ok (.invokevirtual 179, 3) := by decide +kernel
theorem dX7_putAway_58 : decode cX7_putAway 58 = .ok (.iinc 2 (-1), 3) := by decide +kernel
theorem dX7_putAway_61 : decode cX7_putAway 61 = .ok (.goto (-28), 3) := by decide +kernel
theorem dX7_putAway_64 : decode cX7_putAway 64 = .ok (.aload_n 0, 1) := by decide +kernel
theorem dX7_putAway_65 : decode cX7_putAway 65 = .ok (.getfield 10, 3) := by decide +kernel
theorem dX7_putAway_68 : decode cX7_putAway 68 = .ok (.getfield 65, 3) := by decide +kernel
theorem dX7_putAway_71 : decode cX7_putAway 71 = .ok (.iconst 1, 1) := by decide +kernel
theorem dX7_putAway_72 : decode cX7_putAway 72 = .ok (.isub, 1) := by decide +kernel
theorem dX7_putAway_73 : decode cX7_putAway 73 = .ok (.istore_n 2, 1) := by decide +kernel
theorem dX7_putAway_74 : decode cX7_putAway 74 = .ok (.iload_n 2, 1) := by decide +kernel
theorem dX7_putAway_75 : decode cX7_putAway 75 = .ok (.ifCond .lt 30, 3) := by decide +kernel
theorem dX7_putAway_78 : decode cX7_putAway 78 = .ok (.aload_n 0, 1) := by decide +kernel
theorem dX7_putAway_79 : decode cX7_putAway 79 = .ok (.getfield 26, 3) := by decide +kernel
theorem dX7_putAway_82 : decode cX7_putAway 82 = .ok (.getfield 145, 3) := by decide +kernel
theorem dX7_putAway_85 : decode cX7_putAway 85 = .ok (.iload_n 2, 1) := by decide +kernel
theorem dX7_putAway_86 : decode cX7_putAway 86 = .ok (.iaload, 1) := by decide +kernel
theorem dX7_putAway_87 : decode cX7_putAway 87 = .ok (.iconst (-1), 1) := by decide +kernel
theorem dX7_putAway_88 : decode cX7_putAway 88 = .ok (.if_icmp .eq 11, 3) := by decide +kernel
theorem dX7_putAway_91 : decode cX7_putAway 91 = .ok (.aload_n 0, 1) := by decide +kernel
theorem dX7_putAway_92 : decode cX7_putAway 92 = .ok (.getfield 10, 3) := by decide +kernel
theorem dX7_putAway_95 : decode cX7_putAway 95 = .ok (.iload_n 2, 1) := by decide +kernel
theorem dX7_putAway_96 : decode cX7_putAway 96 = .ok (.invokevirtual 183, 3) := by decide +kernel
theorem dX7_putAway_99 : decode cX7_putAway 99 = .ok (.iinc 2 (-1), 3) := by decide +kernel
theorem dX7_putAway_102 : decode cX7_putAway 102 = .ok (.goto (-28), 3) := by decide +kernel
theorem dX7_putAway_105 : decode cX7_putAway 105 = .ok (.iload_n 1, 1) := by decide +kernel
theorem dX7_putAway_106 : decode cX7_putAway 106 = .ok (.ireturn, 1) := by decide +kernel
theorem dX7_batch_0 : decode cX7_batch 0 = .ok (.iload_n 1, 1) := by decide +kernel
theorem dX7_batch_1 : decode cX7_batch 1 = .ok (.iconst 1, 1) := by decide +kernel
theorem dX7_batch_2 : decode cX7_batch 2 = .ok (.if_icmp .lt 9, 3) := by decide +kernel
theorem dX7_batch_5 : decode cX7_batch 5 = .ok (.iload_n 1, 1) := by decide +kernel
theorem dX7_batch_6 : decode cX7_batch 6 = .ok (.bipush 20, 2) := by decide +kernel
theorem dX7_batch_8 : decode cX7_batch 8 = .ok (.if_icmp .le 6, 3) := by decide +kernel
theorem dX7_batch_11 : decode cX7_batch 11 = .ok (.ldc 113, 2) := by decide +kernel
theorem dX7_batch_13 : decode cX7_batch 13 = .ok (.ireturn, 1) := by decide +kernel
theorem dX7_batch_14 : decode cX7_batch 14 = .ok (.aload_n 0, 1) := by decide +kernel
theorem dX7_batch_15 : decode cX7_batch 15 = .ok (.getfield 19, 3) := by decide +kernel
theorem dX7_batch_18 : decode cX7_batch 18 = .ok (.aload_n 0, 1) := by decide +kernel
theorem dX7_batch_19 : decode cX7_batch 19 = .ok (.getfield 10, 3) := by decide +kernel
theorem dX7_batch_22 : decode cX7_batch 22 = .ok (.invokevirtual 176, 3) := by decide +kernel
theorem dX7_batch_25 : decode cX7_batch 25 = .ok (.iconst 0, 1) := by decide +kernel
theorem dX7_batch_26 : decode cX7_batch 26 = .ok (.istore_n 2, 1) := by decide +kernel
theorem dX7_batch_27 : decode cX7_batch 27 = .ok (.iconst 0, 1) := by decide +kernel
theorem dX7_batch_28 : decode cX7_batch 28 = .ok (.istore_n 3, 1) := by decide +kernel
theorem dX7_batch_29 : decode cX7_batch 29 = .ok (.iload_n 3, 1) := by decide +kernel
theorem dX7_batch_30 : decode cX7_batch 30 = .ok (.iload_n 1, 1) := by decide +kernel
theorem dX7_batch_31 : decode cX7_batch 31 = .ok (.if_icmp .ge 50, 3) := by decide +kernel
theorem dX7_batch_34 : decode cX7_batch 34 = .ok (.aload_n 0, 1) := by decide +kernel
theorem dX7_batch_35 : decode cX7_batch 35 = .ok (.iconst 5, 1) := by decide +kernel
theorem dX7_batch_36 : decode cX7_batch 36 = .ok (.invokevirtual 187, 3) := by decide +kernel
theorem dX7_batch_39 : decode cX7_batch 39 = .ok (.istore 4, 2) := by decide +kernel
theorem dX7_batch_41 : decode cX7_batch 41 = .ok (.aload_n 0, 1) := by decide +kernel
theorem dX7_batch_42 : decode cX7_batch 42 = .ok (.bipush 100, 2) := by decide +kernel
theorem dX7_batch_44 : decode cX7_batch 44 = .ok (.invokevirtual 187, 3) := by decide +kernel
theorem dX7_batch_47 : decode cX7_batch 47 = .ok (.sipush 1000, 3) := by decide +kernel
theorem dX7_batch_50 : decode cX7_batch 50 = .ok (.iadd, 1) := by decide +kernel
theorem dX7_batch_51 : decode cX7_batch 51 = .ok (.istore 5, 2) := by decide +kernel
theorem dX7_batch_53 : decode cX7_batch 53 = .ok (.aload_n 0, 1) := by decide +kernel
theorem dX7_batch_54 : decode cX7_batch 54 = .ok (.getfield 10, 3) := by decide +kernel
theorem dX7_batch_57 : decode cX7_batch 57 = .ok (.iload 4, 2) := by decide +kernel
theorem dX7_batch_59 : decode cX7_batch 59 = .ok (.iload 5, 2) := by decide +kernel
theorem dX7_batch_61 : decode cX7_batch 61 = .ok (.invokestatic 169, 3) := by decide +kernel
theorem dX7_batch_64 : decode cX7_batch 64 = .ok (.invokevirtual 190, 3) := by decide +kernel
theorem dX7_batch_67 : decode cX7_batch 67 = .ok (.ldc 193, 2) := by decide +kernel
theorem dX7_batch_69 : decode cX7_batch 69 = .ok (.if_icmp .eq 6, 3) := by decide +kernel
theorem dX7_batch_72 : decode cX7_batch 72 = .ok (.iinc 2 1, 3) := by decide +kernel
theorem dX7_batch_75 : decode cX7_batch 75 = .ok (.iinc 3 1, 3) := by decide +kernel
theorem dX7_batch_78 : decode cX7_batch 78 = .ok (.goto (-49), 3) := by decide +kernel
theorem dX7_batch_81 : decode cX7_batch 81 = .ok (.iload_n 2, 1) := by decide +kernel
theorem dX7_batch_82 : decode cX7_batch 82 = .ok (.ireturn, 1) := by decide +kernel
theorem dX7_clear_0 : decode cX7_clear 0 = .ok (.aload_n 0, 1) := by decide +kernel
theorem dX7_clear_1 : decode cX7_clear 1 = .ok (.getfield 19, 3) := by decide +kernel
theorem dX7_clear_4 : decode cX7_clear 4 = .ok (.aload_n 0, 1) := by decide +kernel
theorem dX7_clear_5 : decode cX7_clear 5 = .ok (.getfield 10, 3) := by decide +kernel
theorem dX7_clear_8 : decode cX7_clear 8 = .ok (.invokevirtual 176, 3) := by decide +kernel
theorem dX7_clear_11 : decode cX7_clear 11 = .ok (.aload_n 0, 1) := by decide +kernel
theorem dX7_clear_12 : decode cX7_clear 12 = .ok (.getfield 10, 3) := by decide +kernel
theorem dX7_clear_15 : decode cX7_clear 15 = .ok (.invokevirtual 194, 3) := by decide +kernel
theorem dX7_clear_18 : decode cX7_clear 18 = .ok (.istore_n 1, 1) := by decide +kernel
theorem dX7_clear_19 : decode cX7_clear 19 = .ok (.aload_n 0, 1) := by decide +kernel
theorem dX7_clear_20 : decode cX7_clear 20 = .ok (.getfield 10, 3) := by decide +kernel
theorem dX7_clear_23 : decode cX7_clear 23 = .ok (.invokevirtual 197, 3) := by decide +kernel
theorem dX7_clear_26 : decode cX7_clear 26 = .ok (.iload_n 1, 1) := by decide +kernel
theorem dX7_clear_27 : decode cX7_clear 27 = .ok (.ireturn, 1) := by decide +kernel
theorem dX7_undo_0 : decode cX7_undo 0 = .ok (.iload_n 1, 1) := by decide +kernel
theorem dX7_undo_1 : decode cX7_undo 1 = .ok (.iconst 1, 1) := by decide +kernel
theorem dX7_undo_2 : decode cX7_undo 2 = .ok (.if_icmp .lt 9, 3) := by decide +kernel
theorem dX7_undo_5 : decode cX7_undo 5 = .ok (.iload_n 1, 1) := by decide +kernel
theorem dX7_undo_6 : decode cX7_undo 6 = .ok (.bipush 16, 2) := by decide +kernel
theorem dX7_undo_8 : decode cX7_undo 8 = .ok (.if_icmp .le 6, 3) := by decide +kernel
theorem dX7_undo_11 : decode cX7_undo 11 = .ok (.ldc 113, 2) := by decide +kernel
theorem dX7_undo_13 : decode cX7_undo 13 = .ok (.ireturn, 1) := by decide +kernel
theorem dX7_undo_14 : decode cX7_undo 14 = .ok (.iload_n 1, 1) := by decide +kernel
theorem dX7_undo_15 : decode cX7_undo 15 = .ok (.aload_n 0, 1) := by decide +kernel
theorem dX7_undo_16 : decode cX7_undo 16 = .ok (.getfield 19, 3) := by decide +kernel
theorem dX7_undo_19 : decode cX7_undo 19 = .ok (.getfield 110, 3) := by decide +kernel
theorem dX7_undo_22 : decode cX7_undo 22 = .ok (.if_icmp .le 6, 3) := by decide +kernel
theorem dX7_undo_25 : decode cX7_undo 25 = .ok (.ldc 186, 2) := by decide +kernel
theorem dX7_undo_27 : decode cX7_undo 27 = .ok (.ireturn, 1) := by decide +kernel
theorem dX7_undo_28 : decode cX7_undo 28 = .ok (.aload_n 0, 1) := by decide +kernel
theorem dX7_undo_29 : decode cX7_undo 29 = .ok (.getfield 19, 3) := by decide +kernel
theorem dX7_undo_32 : decode cX7_undo 32 = .ok (.aload_n 0, 1) := by decide +kernel
theorem dX7_undo_33 : decode cX7_undo 33 = .ok (.getfield 10, 3) := by decide +kernel
theorem dX7_undo_36 : decode cX7_undo 36 = .ok (.iload_n 1, 1) := by decide +kernel
theorem dX7_undo_37 : decode cX7_undo 37 = .ok (.invokevirtual 200, 3) := by decide +kernel
theorem dX7_undo_40 : decode cX7_undo 40 = .ok (.aload_n 0, 1) := by decide +kernel
theorem dX7_undo_41 : decode cX7_undo 41 = .ok (.getfield 10, 3) := by decide +kernel
theorem dX7_undo_44 : decode cX7_undo 44 = .ok (.invokevirtual 194, 3) := by decide +kernel
theorem dX7_undo_47 : decode cX7_undo 47 = .ok (.ireturn, 1) := by decide +kernel
theorem dX7_crowd_0 : decode cX7_crowd 0 = .ok (.iload_n 1, 1) := by decide +kernel
theorem dX7_crowd_1 : decode cX7_crowd 1 = .ok (.iconst 4, 1) := by decide +kernel
theorem dX7_crowd_2 : decode cX7_crowd 2 = .ok (.invokestatic 114, 3) := by decide +kernel
theorem dX7_crowd_5 : decode cX7_crowd 5 = .ok (.ifCond .ne 6, 3) := by decide +kernel
theorem dX7_crowd_8 : decode cX7_crowd 8 = .ok (.ldc 113, 2) := by decide +kernel
theorem dX7_crowd_10 : decode cX7_crowd 10 = .ok (.ireturn, 1) := by decide +kernel
theorem dX7_crowd_11 : decode cX7_crowd 11 = .ok (.aload_n 0, 1) := by decide +kernel
theorem dX7_crowd_12 : decode cX7_crowd 12 = .ok (.getfield 26, 3) := by decide +kernel
theorem dX7_crowd_15 : decode cX7_crowd 15 = .ok (.aload_n 0, 1) := by decide +kernel
theorem dX7_crowd_16 : decode cX7_crowd 16 = .ok (.getfield 10, 3) := by decide +kernel
theorem dX7_crowd_19 : decode cX7_crowd 19 = .ok (.invokevirtual 81, 3) := by decide +kernel
theorem dX7_crowd_22 : decode cX7_crowd 22 = .ok (.aload_n 0, 1) := by decide +kernel
theorem dX7_crowd_23 : decode cX7_crowd 23 = .ok (.getfield 33, 3) := by decide +kernel
theorem dX7_crowd_26 : decode cX7_crowd 26 = .ok (.aload_n 0, 1) := by decide +kernel
theorem dX7_crowd_27 : decode cX7_crowd 27 = .ok (.getfield 26, 3) := by decide +kernel
theorem dX7_crowd_30 : decode cX7_crowd 30 = .ok (.invokevirtual 204, 3) := by decide +kernel
theorem dX7_crowd_33 : decode cX7_crowd 33 = .ok (.aload_n 0, 1) := by decide +kernel
theorem dX7_crowd_34 : decode cX7_crowd 34 = .ok (.getfield 33, 3) := by decide +kernel
theorem dX7_crowd_37 : decode cX7_crowd 37 = .ok (.getfield 208, 3) := by decide +kernel
theorem dX7_crowd_40 : decode cX7_crowd 40 = .ok (.ifCond .ne 5, 3) := by decide +kernel
theorem dX7_crowd_43 : decode cX7_crowd 43 = .ok (.iconst (-1), 1) := by decide +kernel
theorem dX7_crowd_44 : decode cX7_crowd 44 = .ok (.ireturn, 1) := by decide +kernel
theorem dX7_crowd_45 : decode cX7_crowd 45 = .ok (.iload_n 1, 1) := by decide +kernel
theorem dX7_crowd_46 : decode cX7_crowd 46 = .ok (.tableswitch 50 0 2 #[26, 34, 42], 26) := by decide +kernel
theorem dX7_crowd_72 : decode cX7_crowd 72 = .ok (.aload_n 0, 1) := by decide +kernel
theorem dX7_crowd_73 : decode cX7_crowd 73 = .ok (.getfield 33, 3) := by decide +kernel
theorem dX7_crowd_76 : decode cX7_crowd 76 = .ok (.getfield 211, 3) := by decide +kernel
theorem dX7_crowd_79 : decode cX7_crowd 79 = .ok (.ireturn, 1) := by decide +kernel
theorem dX7_crowd_80 : decode cX7_crowd 80 = .ok (.aload_n 0, 1) := by decide +kernel
theorem dX7_crowd_81 : decode cX7_crowd 81 = .ok (.getfield 33, 3) := by decide +kernel
theorem dX7_crowd_84 : decode cX7_crowd 84 = .ok (.getfield 214, 3) := by decide +kernel
theorem dX7_crowd_87 : decode cX7_crowd 87 = .ok (.ireturn, 1) := by decide +kernel
theorem dX7_crowd_88 : decode cX7_crowd 88 = .ok (.aload_n 0, 1) := by decide +kernel
theorem dX7_crowd_89 : decode cX7_crowd 89 = .ok (.getfield 33, 3) := by decide +kernel
theorem dX7_crowd_92 : decode cX7_crowd 92 = .ok (.getfield 217, 3) := by decide +kernel
theorem dX7_crowd_95 : decode cX7_crowd 95 = .ok (.ireturn, 1) := by decide +kernel
theorem dX7_crowd_96 : decode cX7_crowd 96 = .ok (.aload_n 0, 1) := by decide +kernel
theorem dX7_crowd_97 : decode cX7_crowd 97 = .ok (.getfield 33, 3) := by decide +kernel
theorem dX7_crowd_100 : decode cX7_crowd 100 = .ok (.getfield 219, 3) := by decide +kernel
theorem dX7_crowd_103 : decode cX7_crowd 103 = .ok (.ireturn, 1) := by decide +kernel
theorem dX7_boxes_0 : decode cX7_boxes 0 = .ok (.iload_n 1, 1) := by decide +kernel
theorem dX7_boxes_1 : decode cX7_boxes 1 = .ok (.bipush 10, 2) := by decide +kernel
theorem dX7_boxes_3 : decode cX7_boxes 3 = .ok (.invokestatic 114, 3) := by decide +kernel
theorem dX7_boxes_6 : decode cX7_boxes 6 = .ok (.ifCond .ne 6, 3) := by decide +kernel
theorem dX7_boxes_9 : decode cX7_boxes 9 = .ok (.ldc 113, 2) := by decide +kernel
theorem dX7_boxes_11 : decode cX7_boxes 11 = .ok (.ireturn, 1) := by decide +kernel
theorem dX7_boxes_12 : decode cX7_boxes 12 = .ok (.aload_n 0, 1) := by decide +kernel
theorem dX7_boxes_13 : decode cX7_boxes 13 = .ok (.getfield 40, 3) := by decide +kernel
theorem dX7_boxes_16 : decode cX7_boxes 16 = .ok (.aload_n 0, 1) := by decide +kernel
theorem dX7_boxes_17 : decode cX7_boxes 17 = .ok (.getfield 10, 3) := by decide +kernel
theorem dX7_boxes_20 : decode cX7_boxes 20 = .ok (.invokevirtual 221, 3) := by decide +kernel
theorem dX7_boxes_23 : decode cX7_boxes 23 = .ok (.aload_n 0, 1) := by decide +kernel
theorem dX7_boxes_24 : decode cX7_boxes 24 = .ok (.getfield 40, 3) := by decide +kernel
theorem dX7_boxes_27 : decode cX7_boxes 27 = .ok (.iload_n 1, 1) := by decide +kernel
theorem dX7_boxes_28 : decode cX7_boxes 28 = .ok (.invokevirtual 222, 3) := by decide +kernel
theorem dX7_boxes_31 : decode cX7_boxes 31 = .ok (.ireturn, 1) := by decide +kernel
theorem dX7_withBore_0 : decode cX7_withBore 0 = .ok (.iload_n 1, 1) := by decide +kernel
theorem dX7_withBore_1 : decode cX7_withBore 1 = .ok (.sipush 10000, 3) := by decide +kernel
theorem dX7_withBore_4 : decode cX7_withBore 4 = .ok (.invokestatic 114, 3) := by decide +kernel
theorem dX7_withBore_7 : decode cX7_withBore 7 = .ok (.ifCond .ne 6, 3) := by decide +kernel
theorem dX7_withBore_10 : decode cX7_withBore 10 = .ok (.ldc 113, 2) := by decide +kernel
theorem dX7_withBore_12 : decode cX7_withBore 12 = .ok (.ireturn, 1) := by decide +kernel
theorem dX7_withBore_13 : decode cX7_withBore 13 = .ok (.aload_n 0, 1) := by decide +kernel
theorem dX7_withBore_14 : decode cX7_withBore 14 = .ok (.getfield 26, 3) := by decide +kernel
theorem dX7_withBore_17 : decode cX7_withBore 17 = .ok (.aload_n 0, 1) := by decide +kernel
theorem dX7_withBore_18 : decode cX7_withBore 18 = .ok (.getfield 10, 3) := by decide +kernel
theorem dX7_withBore_21 : decode cX7_withBore 21 = .ok (.invokevirtual 81, 3) := by decide +kernel
theorem dX7_withBore_24 : decode cX7_withBore 24 = .ok (.aload_n 0, 1) := by decide +kernel
theorem dX7_withBore_25 : decode cX7_withBore 25 = .ok (.getfield 26, 3) := by decide +kernel
theorem dX7_withBore_28 : decode cX7_withBore 28 = .ok (.iload_n 1, 1) := by decide +kernel
theorem dX7_withBore_29 : decode cX7_withBore 29 = .ok (.invokevirtual 225, 3) := by decide +kernel
theorem dX7_withBore_32 : decode cX7_withBore 32 = .ok (.ireturn, 1) := by decide +kernel
theorem dX7_see_0 : decode cX7_see 0 = .ok (.iload_n 1, 1) := by decide +kernel
theorem dX7_see_1 : decode cX7_see 1 = .ok (.iconst 4, 1) := by decide +kernel
theorem dX7_see_2 : decode cX7_see 2 = .ok (.invokestatic 114, 3) := by decide +kernel
theorem dX7_see_5 : decode cX7_see 5 = .ok (.ifCond .ne 6, 3) := by decide +kernel
theorem dX7_see_8 : decode cX7_see 8 = .ok (.ldc 118, 2) := by decide +kernel
theorem dX7_see_10 : decode cX7_see 10 = .ok (.ireturn, 1) := by decide +kernel
theorem dX7_see_11 : decode cX7_see 11 = .ok (.iload_n 2, 1) := by decide +kernel
theorem dX7_see_12 : decode cX7_see 12 = .ok (.sipush 10000, 3) := by decide +kernel
theorem dX7_see_15 : decode cX7_see 15 = .ok (.invokestatic 114, 3) := by decide +kernel
theorem dX7_see_18 : decode cX7_see 18 = .ok (.ifCond .ne 6, 3) := by decide +kernel
theorem dX7_see_21 : decode cX7_see 21 = .ok (.ldc 113, 2) := by decide +kernel
theorem dX7_see_23 : decode cX7_see 23 = .ok (.ireturn, 1) := by decide +kernel
theorem dX7_see_24 : decode cX7_see 24 = .ok (.aload_n 0, 1) := by decide +kernel
theorem dX7_see_25 : decode cX7_see 25 = .ok (.getfield 47, 3) := by decide +kernel
theorem dX7_see_28 : decode cX7_see 28 = .ok (.iload_n 1, 1) := by decide +kernel
theorem dX7_see_29 : decode cX7_see 29 = .ok (.iload_n 2, 1) := by decide +kernel
theorem dX7_see_30 : decode cX7_see 30 = .ok (.invokestatic 169, 3) := by decide +kernel
theorem dX7_see_33 : decode cX7_see 33 = .ok (.iload_n 3, 1) := by decide +kernel
theorem dX7_see_34 : decode cX7_see 34 = .ok (.invokevirtual 228, 3) := by decide +kernel
theorem dX7_see_37 : decode cX7_see 37 = .ok (.ireturn, 1) := by decide +kernel
theorem dX7_forget_0 : decode cX7_forget 0 = .ok (.aload_n 0, 1) := by decide +kernel
theorem dX7_forget_1 : decode cX7_forget 1 = .ok (.getfield 47, 3) := by decide +kernel
theorem dX7_forget_4 : decode cX7_forget 4 = .ok (.getfield 91, 3) := by decide +kernel
theorem dX7_forget_7 : decode cX7_forget 7 = .ok (.istore_n 1, 1) := by decide +kernel
theorem dX7_forget_8 : decode cX7_forget 8 = .ok (.aload_n 0, 1) := by decide +kernel
theorem dX7_forget_9 : decode cX7_forget 9 = .ok (.getfield 47, 3) := by decide +kernel
theorem dX7_forget_12 : decode cX7_forget 12 = .ok (.iconst 0, 1) := by decide +kernel
theorem dX7_forget_13 : decode cX7_forget 13 = .ok (.putfield 91, 3) := by decide +kernel
theorem dX7_forget_16 : decode cX7_forget 16 = .ok (.iload_n 1, 1) := by decide +kernel
theorem dX7_forget_17 : decode cX7_forget 17 = .ok (.ireturn, 1) := by decide +kernel
theorem dX7_seed_0 : decode cX7_seed 0 = .ok (.iload_n 1, 1) := by decide +kernel
theorem dX7_seed_1 : decode cX7_seed 1 = .ok (.ifCond .ge 6, 3) := by decide +kernel
theorem dX7_seed_4 : decode cX7_seed 4 = .ok (.ldc 113, 2) := by decide +kernel
theorem dX7_seed_6 : decode cX7_seed 6 = .ok (.ireturn, 1) := by decide +kernel
theorem dX7_seed_7 : decode cX7_seed 7 = .ok (.aload_n 0, 1) := by decide +kernel
theorem dX7_seed_8 : decode cX7_seed 8 = .ok (.getfield 57, 3) := by decide +kernel
theorem dX7_seed_11 : decode cX7_seed 11 = .ok (.istore_n 2, 1) := by decide +kernel
theorem dX7_seed_12 : decode cX7_seed 12 = .ok (.aload_n 0, 1) := by decide +kernel
theorem dX7_seed_13 : decode cX7_seed 13 = .ok (.iload_n 1, 1) := by decide +kernel
theorem dX7_seed_14 : decode cX7_seed 14 = .ok (.putfield 57, 3) := by decide +kernel
theorem dX7_seed_17 : decode cX7_seed 17 = .ok (.iload_n 2, 1) := by decide +kernel
theorem dX7_seed_18 : decode cX7_seed 18 = .ok (.ireturn, 1) := by decide +kernel
theorem dX7_keep_0 : decode cX7_keep 0 = .ok (.iload_n 1, 1) := by decide +kernel
theorem dX7_keep_1 : decode cX7_keep 1 = .ok (.iconst 2, 1) := by decide +kernel
theorem dX7_keep_2 : decode cX7_keep 2 = .ok (.invokestatic 114, 3) := by decide +kernel
theorem dX7_keep_5 : decode cX7_keep 5 = .ok (.ifCond .ne 6, 3) := by decide +kernel
theorem dX7_keep_8 : decode cX7_keep 8 = .ok (.ldc 118, 2) := by decide +kernel
theorem dX7_keep_10 : decode cX7_keep 10 = .ok (.ireturn, 1) := by decide +kernel
theorem dX7_keep_11 : decode cX7_keep 11 = .ok (.aload_n 0, 1) := by decide +kernel
theorem dX7_keep_12 : decode cX7_keep 12 = .ok (.getfield 53, 3) := by decide +kernel
theorem dX7_keep_15 : decode cX7_keep 15 = .ok (.iload_n 1, 1) := by decide +kernel
theorem dX7_keep_16 : decode cX7_keep 16 = .ok (.aaload, 1) := by decide +kernel
theorem dX7_keep_17 : decode cX7_keep 17 = .ok (.getfield 231, 3) := by decide +kernel
theorem dX7_keep_20 : decode cX7_keep 20 = .ok (.aload_n 0, 1) := by decide +kernel
theorem dX7_keep_21 : decode cX7_keep 21 = .ok (.getfield 10, 3) := by decide +kernel
theorem dX7_keep_24 : decode cX7_keep 24 = .ok (.invokevirtual 232, 3) := by decide +kernel
theorem dX7_keep_27 : decode cX7_keep 27 = .ok (.aload_n 0, 1) := by decide +kernel
theorem dX7_keep_28 : decode cX7_keep 28 = .ok (.getfield 53, 3) := by decide +kernel
theorem dX7_keep_31 : decode cX7_keep 31 = .ok (.iload_n 1, 1) := by decide +kernel
theorem dX7_keep_32 : decode cX7_keep 32 = .ok (.aaload, 1) := by decide +kernel
theorem dX7_keep_33 : decode cX7_keep 33 = .ok (.aload_n 0, 1) := by decide +kernel
theorem dX7_keep_34 : decode cX7_keep 34 = .ok (.getfield 57, 3) := by decide +kernel
theorem dX7_keep_37 : decode cX7_keep 37 = .ok (.putfield 235, 3) := by decide +kernel
theorem dX7_keep_40 : decode cX7_keep 40 = .ok (.aload_n 0, 1) := by decide +kernel
theorem dX7_keep_41 : decode cX7_keep 41 = .ok (.getfield 53, 3) := by decide +kernel
theorem dX7_keep_44 : decode cX7_keep 44 = .ok (.iload_n 1, 1) := by decide +kernel
theorem dX7_keep_45 : decode cX7_keep 45 = .ok (.aaload, 1) := by decide +kernel
theorem dX7_keep_46 : decode cX7_keep 46 = .ok (.iconst 1, 1) := by decide +kernel
theorem dX7_keep_47 : decode cX7_keep 47 = .ok (.putfield 238, 3) := by decide +kernel
theorem dX7_keep_50 : decode cX7_keep 50 = .ok (.aload_n 0, 1) := by decide +kernel
theorem dX7_keep_51 : decode cX7_keep 51 = .ok (.getfield 19, 3) := by decide +kernel
theorem dX7_keep_54 : decode cX7_keep 54 = .ok (.iconst 0, 1) := by decide +kernel
theorem dX7_keep_55 : decode cX7_keep 55 = .ok (.putfield 110, 3) := by decide +kernel
theorem dX7_keep_58 : decode cX7_keep 58 = .ok (.iconst 1, 1) := by decide +kernel
theorem dX7_keep_59 : decode cX7_keep 59 = .ok (.ireturn, 1) := by decide +kernel
theorem dX7_goBack_0 : decode cX7_goBack 0 = .ok (.iload_n 1, 1) := by decide +kernel
theorem dX7_goBack_1 : decode cX7_goBack 1 = .ok (.iconst 2, 1) := by decide +kernel
theorem dX7_goBack_2 : decode cX7_goBack 2 = .ok (.invokestatic 114, 3) := by decide +kernel
theorem dX7_goBack_5 : decode cX7_goBack 5 = .ok (.ifCond .ne 6, 3) := by decide +kernel
theorem dX7_goBack_8 : decode cX7_goBack 8 = .ok (.ldc 118, 2) := by decide +kernel
theorem dX7_goBack_10 : decode cX7_goBack 10 = .ok (.ireturn, 1) := by decide +kernel
theorem dX7_goBack_11 : decode cX7_goBack 11 = .ok (.aload_n 0, 1) := by decide +kernel
theorem dX7_goBack_12 : decode cX7_goBack 12 = .ok (.getfield 53, 3) := by decide +kernel
theorem dX7_goBack_15 : decode cX7_goBack 15 = .ok (.iload_n 1, 1) := by decide +kernel
theorem dX7_goBack_16 : decode cX7_goBack 16 = .ok (.aaload, 1) := by decide +kernel
theorem dX7_goBack_17 : decode cX7_goBack 17 = .ok (.getfield 238, 3) := by decide +kernel
theorem dX7_goBack_20 : decode cX7_goBack 20 = .ok (.ifCond .ne 6, 3) := by decide +kernel
theorem dX7_goBack_23 : decode cX7_goBack 23 = .ok (.ldc 186, 2) := by decide +kernel
theorem dX7_goBack_25 : decode cX7_goBack 25 = .ok (.ireturn, 1) := by decide +kernel
theorem dX7_goBack_26 : decode cX7_goBack 26 = .ok (.aload_n 0, 1) := by decide +kernel
theorem dX7_goBack_27 : decode cX7_goBack 27 = .ok (.getfield 10, 3) := by decide +kernel
theorem dX7_goBack_30 : decode cX7_goBack 30 = .ok (.aload_n 0, 1) := by decide +kernel
theorem dX7_goBack_31 : decode cX7_goBack 31 = .ok (.getfield 53, 3) := by decide +kernel
theorem dX7_goBack_34 : decode cX7_goBack 34 = .ok (.iload_n 1, 1) := by decide +kernel
theorem dX7_goBack_35 : decode cX7_goBack 35 = .ok (.aaload, 1) := by decide +kernel
theorem dX7_goBack_36 : decode cX7_goBack 36 = .ok (.getfield 231, 3) := by decide +kernel
theorem dX7_goBack_39 : decode cX7_goBack 39 = .ok (.invokevirtual 232, 3) := by decide +kernel
theorem dX7_goBack_42 : decode cX7_goBack 42 = .ok (.aload_n 0, 1) := by decide +kernel
theorem dX7_goBack_43 : decode cX7_goBack 43 = .ok (.getfield 10, 3) := by decide +kernel
theorem dX7_goBack_46 : decode cX7_goBack 46 = .ok (.invokevirtual 242, 3) := by decide +kernel
theorem dX7_goBack_49 : decode cX7_goBack 49 = .ok (.aload_n 0, 1) := by decide +kernel
theorem dX7_goBack_50 : decode cX7_goBack 50 = .ok (.aload_n 0, 1) := by decide +kernel
theorem dX7_goBack_51 : decode cX7_goBack 51 = .ok (.getfield 53, 3) := by decide +kernel
theorem dX7_goBack_54 : decode cX7_goBack 54 = .ok (.iload_n 1, 1) := by decide +kernel
theorem dX7_goBack_55 : decode cX7_goBack 55 = .ok (.aaload, 1) := by decide +kernel
theorem dX7_goBack_56 : decode cX7_goBack 56 = .ok (.getfield 235, 3) := by decide +kernel
theorem dX7_goBack_59 : decode cX7_goBack 59 = .ok (.putfield 57, 3) := by decide +kernel
theorem dX7_goBack_62 : decode cX7_goBack 62 = .ok (.aload_n 0, 1) := by decide +kernel
theorem dX7_goBack_63 : decode cX7_goBack 63 = .ok (.getfield 19, 3) := by decide +kernel
theorem dX7_goBack_66 : decode cX7_goBack 66 = .ok (.iconst 0, 1) := by decide +kernel
theorem dX7_goBack_67 : decode cX7_goBack 67 = .ok (.putfield 110, 3) := by decide +kernel
theorem dX7_goBack_70 : decode cX7_goBack 70 = .ok (.iconst 1, 1) := by decide +kernel
theorem dX7_goBack_71 : decode cX7_goBack 71 = .ok (.ireturn, 1) := by decide +kernel
theorem dX7_pairUp_0 : decode cX7_pairUp 0 = .ok (.aload_n 0, 1) := by decide +kernel
theorem dX7_pairUp_1 : decode cX7_pairUp 1 = .ok (.getfield 26, 3) := by decide +kernel
theorem dX7_pairUp_4 : decode cX7_pairUp 4 = .ok (.aload_n 0, 1) := by decide +kernel
theorem dX7_pairUp_5 : decode cX7_pairUp 5 = .ok (.getfield 10, 3) := by decide +kernel
theorem dX7_pairUp_8 : decode cX7_pairUp 8 = .ok (.invokevirtual 81, 3) := by decide +kernel
theorem dX7_pairUp_11 : decode cX7_pairUp 11 = .ok (.aload_n 0, 1) := by decide +kernel
theorem dX7_pairUp_12 : decode cX7_pairUp 12 = .ok (.getfield 26, 3) := by decide +kernel
theorem dX7_pairUp_15 : decode cX7_pairUp 15 = .ok (.iconst 0, 1) := by decide +kernel
theorem dX7_pairUp_16 : decode cX7_pairUp 16 = .ok (.invokevirtual 245, 3) := by decide +kernel
theorem dX7_pairUp_19 : decode cX7_pairUp 19 = .ok (.ireturn, 1) := by decide +kernel
theorem dX7_putAsDeed_0 : decode cX7_putAsDeed 0 = .ok (.aload_n 0, 1) := by decide +kernel
theorem dX7_putAsDeed_1 : decode cX7_putAsDeed 1 = .ok (.getfield 10, 3) := by decide +kernel
theorem dX7_putAsDeed_4 : decode cX7_putAsDeed 4 = .ok (.iload_n 1, 1) := by decide +kernel
theorem dX7_putAsDeed_5 : decode cX7_putAsDeed 5 = .ok (.invokevirtual 248, 3) := by decide +kernel
theorem dX7_putAsDeed_8 : decode cX7_putAsDeed 8 = .ok (.ifCond .ne 6, 3) := by decide +kernel
theorem dX7_putAsDeed_11 : decode cX7_putAsDeed 11 = .ok (.ldc 193, 2) := by decide +kernel
theorem dX7_putAsDeed_13 : decode cX7_putAsDeed 13 = .ok (.ireturn, 1) := by decide +kernel
theorem dX7_putAsDeed_14 : decode cX7_putAsDeed 14 = .ok (.aload_n 0, 1) := by decide +kernel
theorem dX7_putAsDeed_15 : decode cX7_putAsDeed 15 = .ok (.getfield 19, 3) := by decide +kernel
theorem dX7_putAsDeed_18 : decode cX7_putAsDeed 18 = .ok (.aload_n 0, 1) := by decide +kernel
theorem dX7_putAsDeed_19 : decode cX7_putAsDeed 19 = .ok (.getfield 10, 3) := by decide +kernel
theorem dX7_putAsDeed_22 : decode cX7_putAsDeed 22 = .ok (.invokevirtual 176, 3) := by decide +kernel
theorem dX7_putAsDeed_25 : decode cX7_putAsDeed 25 = .ok (.aload_n 0, 1) := by decide +kernel
theorem dX7_putAsDeed_26 : decode cX7_putAsDeed 26 = .ok (.getfield 10, 3) := by decide +kernel
theorem dX7_putAsDeed_29 : decode cX7_putAsDeed 29 = .ok (.iload_n 1, 1) := by decide +kernel
theorem dX7_putAsDeed_30 : decode cX7_putAsDeed 30 = .ok (.invokevirtual 190, 3) := by decide +kernel
theorem dX7_putAsDeed_33 : decode cX7_putAsDeed 33 = .ok (.ireturn, 1) := by decide +kernel
theorem dX7_draw_0 : decode cX7_draw 0 = .ok (.aload_n 0, 1) := by decide +kernel
theorem dX7_draw_1 : decode cX7_draw 1 = .ok (.aload_n 0, 1) := by decide +kernel
theorem dX7_draw_2 : decode cX7_draw 2 = .ok (.getfield 57, 3) := by decide +kernel
theorem dX7_draw_5 : decode cX7_draw 5 = .ok (.i2l, 1) := by decide +kernel
theorem dX7_draw_6 : decode cX7_draw 6 = .ok (.ldc2_w 252, 3) := by decide +kernel
theorem dX7_draw_9 : decode cX7_draw 9 = .ok (.lmul, 1) := by decide +kernel
theorem dX7_draw_10 : decode cX7_draw 10 = .ok (.ldc2_w 254, 3) := by decide +kernel
theorem dX7_draw_13 : decode cX7_draw 13 = .ok (.ladd, 1) := by decide +kernel
theorem dX7_draw_14 : decode cX7_draw 14 = .ok (.ldc2_w 256, 3) := by decide +kernel
theorem dX7_draw_17 : decode cX7_draw 17 = .ok (.lrem, 1) := by decide +kernel
theorem dX7_draw_18 : decode cX7_draw 18 = .ok (.l2i, 1) := by decide +kernel
theorem dX7_draw_19 : decode cX7_draw 19 = .ok (.putfield 57, 3) := by decide +kernel
theorem dX7_draw_22 : decode cX7_draw 22 = .ok (.iload_n 1, 1) := by decide +kernel
theorem dX7_draw_23 : decode cX7_draw 23 = .ok (.iconst 1, 1) := by decide +kernel
theorem dX7_draw_24 : decode cX7_draw 24 = .ok (.if_icmp .ge 7, 3) := by decide +kernel
theorem dX7_draw_27 : decode cX7_draw 27 = .ok (.iconst 0, 1) := by decide +kernel
theorem dX7_draw_28 : decode cX7_draw 28 = .ok (.goto 13, 3) := by decide +kernel
theorem dX7_draw_31 : decode cX7_draw 31 = .ok (.aload_n 0, 1) := by decide +kernel
theorem dX7_draw_32 : decode cX7_draw 32 = .ok (.getfield 57, 3) := by decide +kernel
theorem dX7_draw_35 : decode cX7_draw 35 = .ok (.ldc_w 258, 3) := by decide +kernel
theorem dX7_draw_38 : decode cX7_draw 38 = .ok (.idiv, 1) := by decide +kernel
theorem dX7_draw_39 : decode cX7_draw 39 = .ok (.iload_n 1, 1) := by decide +kernel
theorem dX7_draw_40 : decode cX7_draw 40 = .ok (.irem, 1) := by decide +kernel
theorem dX7_draw_41 : decode cX7_draw 41 = .ok (.ireturn, 1) := by decide +kernel
theorem dX7_isIn_0 : decode cX7_isIn 0 = .ok (.iload_n 0, 1) := by decide +kernel
theorem dX7_isIn_1 : decode cX7_isIn 1 = .ok (.ifCond .lt 12, 3) := by decide +kernel
theorem dX7_isIn_4 : decode cX7_isIn 4 = .ok (.iload_n 0, 1) := by decide +kernel
theorem dX7_isIn_5 : decode cX7_isIn 5 = .ok (.iload_n 1, 1) := by decide +kernel
theorem dX7_isIn_6 : decode cX7_isIn 6 = .ok (.if_icmp .ge 7, 3) := by decide +kernel
theorem dX7_isIn_9 : decode cX7_isIn 9 = .ok (.iconst 1, 1) := by decide +kernel
theorem dX7_isIn_10 : decode cX7_isIn 10 = .ok (.goto 4, 3) := by decide +kernel
theorem dX7_isIn_13 : decode cX7_isIn 13 = .ok (.iconst 0, 1) := by decide +kernel
theorem dX7_isIn_14 : decode cX7_isIn 14 = .ok (.ireturn, 1) := by decide +kernel
theorem dX7_kindOf_0 : decode cX7_kindOf 0 = .ok (.iload_n 0, 1) := by decide +kernel
theorem dX7_kindOf_1 : decode cX7_kindOf 1 = .ok (.sipush 10000, 3) := by decide +kernel
theorem dX7_kindOf_4 : decode cX7_kindOf 4 = .ok (.imul, 1) := by decide +kernel
theorem dX7_kindOf_5 : decode cX7_kindOf 5 = .ok (.iload_n 1, 1) := by decide +kernel
theorem dX7_kindOf_6 : decode cX7_kindOf 6 = .ok (.iadd, 1) := by decide +kernel
theorem dX7_kindOf_7 : decode cX7_kindOf 7 = .ok (.ireturn, 1) := by decide +kernel
theorem dX7_gradeOf_0 : decode cX7_gradeOf 0 = .ok (.iload_n 0, 1) := by decide +kernel
theorem dX7_gradeOf_1 : decode cX7_gradeOf 1 = .ok (.sipush 10000, 3) := by decide +kernel
theorem dX7_gradeOf_4 : decode cX7_gradeOf 4 = .ok (.idiv, 1) := by decide +kernel
theorem dX7_gradeOf_5 : decode cX7_gradeOf 5 = .ok (.ireturn, 1) := by decide +kernel
theorem dX7_sizeOf_0 : decode cX7_sizeOf 0 = .ok (.iload_n 0, 1) := by decide +kernel
theorem dX7_sizeOf_1 : decode cX7_sizeOf 1 = .ok (.sipush 10000, 3) := by decide +kernel
theorem dX7_sizeOf_4 : decode cX7_sizeOf 4 = .ok (.irem, 1) := by decide +kernel
theorem dX7_sizeOf_5 : decode cX7_sizeOf 5 = .ok (.ireturn, 1) := by decide +kernel
theorem dX8_init_0 : decode cX8_init 0 = .ok (.aload_n 0, 1) := by decide +kernel
theorem dX8_init_1 : decode cX8_init 1 = .ok (.invokespecial 1, 3) := by decide +kernel
theorem dX8_init_4 : decode cX8_init 4 = .ok (.aload_n 0, 1) := by decide +kernel
theorem dX8_init_5 : decode cX8_init 5 = .ok (.sipush 5225, 3) := by decide +kernel
theorem dX8_init_8 : decode cX8_init 8 = .ok (.newarray .int, 2) := by decide +kernel
theorem dX8_init_10 : decode cX8_init 10 = .ok (.putfield 7, 3) := by decide +kernel
theorem dX8_init_13 : decode cX8_init 13 = .ok (.aload_n 0, 1) := by decide +kernel
theorem dX8_init_14 : decode cX8_init 14 = .ok (.iconst 2, 1) := by decide +kernel
theorem dX8_init_15 : decode cX8_init 15 = .ok (.newarray .boolean, 2) := by decide +kernel
theorem dX8_init_17 : decode cX8_init 17 = .ok (.putfield 13, 3) := by decide +kernel
theorem dX8_init_20 : decode cX8_init 20 = .ok (.aload_n 0, 1) := by decide +kernel
theorem dX8_init_21 : decode cX8_init 21 = .ok (.iconst 2, 1) := by decide +kernel
theorem dX8_init_22 : decode cX8_init 22 = .ok (.newarray .int, 2) := by decide +kernel
theorem dX8_init_24 : decode cX8_init 24 = .ok (.putfield 17, 3) := by decide +kernel
theorem dX8_init_27 : decode cX8_init 27 = .ok (.aload_n 0, 1) := by decide +kernel
theorem dX8_init_28 : decode cX8_init 28 = .ok (.bipush 24, 2) := by decide +kernel
theorem dX8_init_30 : decode cX8_init 30 = .ok (.newarray .int, 2) := by decide +kernel
theorem dX8_init_32 : decode cX8_init 32 = .ok (.putfield 20, 3) := by decide +kernel
theorem dX8_init_35 : decode cX8_init 35 = .ok (.aload_n 0, 1) := by decide +kernel
theorem dX8_init_36 : decode cX8_init 36 = .ok (.bipush 25, 2) := by decide +kernel
theorem dX8_init_38 : decode cX8_init 38 = .ok (.newarray .int, 2) := by decide +kernel
theorem dX8_init_40 : decode cX8_init 40 = .ok (.putfield 23, 3) := by decide +kernel
theorem dX8_init_43 : decode cX8_init 43 = .ok (.aload_n 0, 1) := by decide +kernel
theorem dX8_init_44 : decode cX8_init 44 = .ok (.bipush 25, 2) := by decide +kernel
theorem dX8_init_46 : decode cX8_init 46 = .ok (.newarray .int, 2) := by decide +kernel
theorem dX8_init_48 : decode cX8_init 48 = .ok (.putfield 26, 3) := by decide +kernel
theorem dX8_init_51 : decode cX8_init 51 = .ok (.aload_n 0, 1) := by decide +kernel
theorem dX8_init_52 : decode cX8_init 52 = .ok (.bipush 6, 2) := by decide +kernel
theorem dX8_init_54 : decode cX8_init 54 = .ok (.newarray .int, 2) := by decide +kernel
theorem dX8_init_56 : decode cX8_init 56 = .ok (.putfield 29, 3) := by decide +kernel
theorem dX8_init_59 : decode cX8_init 59 = .ok (.aload_n 0, 1) := by decide +kernel
theorem dX8_init_60 : decode cX8_init 60 = .ok (.bipush 6, 2) := by decide +kernel
theorem dX8_init_62 : decode cX8_init 62 = .ok (.newarray .int, 2) := by decide +kernel
theorem dX8_init_64 : decode cX8_init 64 = .ok (.putfield 32, 3) := by decide +kernel
theorem dX8_init_67 : decode cX8_init 67 = .ok (.aload_n 0, 1) := by decide +kernel
theorem dX8_init_68 : decode cX8_init 68 = .ok (.bipush 6, 2) := by decide +kernel
theorem dX8_init_70 : decode cX8_init 70 = .ok (.newarray .boolean, 2) := by decide +kernel
theorem dX8_init_72 : decode cX8_init 72 = .ok (.putfield 35, 3) := by decide +kernel
theorem dX8_init_75 : decode cX8_init 75 = .ok (.aload_n 0, 1) := by decide +kernel
theorem dX8_init_76 : decode cX8_init 76 = .ok (.bipush 48, 2) := by decide +kernel
theorem dX8_init_78 : decode cX8_init 78 = .ok (.newarray .int, 2) := by decide +kernel
theorem dX8_init_80 : decode cX8_init 80 = .ok (.putfield 38, 3) := by decide +kernel
theorem dX8_init_83 : decode cX8_init 83 = .ok (.aload_n 0, 1) := by decide +kernel
theorem dX8_init_84 : decode cX8_init 84 = .ok (.sipush 490, 3) := by decide +kernel
theorem dX8_init_87 : decode cX8_init 87 = .ok (.newarray .int, 2) := by decide +kernel
theorem dX8_init_89 : decode cX8_init 89 = .ok (.putfield 41, 3) := by decide +kernel
theorem dX8_init_92 : decode cX8_init 92 = .ok (.aload_n 0, 1) := by decide +kernel
theorem dX8_init_93 : decode cX8_init 93 = .ok (.iconst 0, 1) := by decide +kernel
theorem dX8_init_94 : decode cX8_init 94 = .ok (.putfield 44, 3) := by decide +kernel
theorem dX8_init_97 : decode cX8_init 97 = .ok (.return_, 1) := by decide +kernel
theorem dX8_in_0 : decode cX8_in 0 = .ok (.lload_n 0, 1) := by decide +kernel
theorem dX8_in_1 : decode cX8_in 1 = .ok (.lload_n 2, 1) := by decide +kernel
theorem dX8_in_2 : decode cX8_in 2 = .ok (.lcmp, 1) := by decide +kernel
theorem dX8_in_3 : decode cX8_in 3 = .ok (.ifCond .lt 14, 3) := by decide +kernel
theorem dX8_in_6 : decode cX8_in 6 = .ok (.lload_n 0, 1) := by decide +kernel
theorem dX8_in_7 : decode cX8_in 7 = .ok (.lload 4, 2) := by decide +kernel
theorem dX8_in_9 : decode cX8_in 9 = .ok (.lcmp, 1) := by decide +kernel
theorem dX8_in_10 : decode cX8_in 10 = .ok (.ifCond .gt 7, 3) := by decide +kernel
theorem dX8_in_13 : decode cX8_in 13 = .ok (.iconst 1, 1) := by decide +kernel
theorem dX8_in_14 : decode cX8_in 14 = .ok (.goto 4, 3) := by decide +kernel
theorem dX8_in_17 : decode cX8_in 17 = .ok (.iconst 0, 1) := by decide +kernel
theorem dX8_in_18 : decode cX8_in 18 = .ok (.ireturn, 1) := by decide +kernel
theorem dX8_copy_0 : decode cX8_copy 0 = .ok (.iconst 0, 1) := by decide +kernel
theorem dX8_copy_1 : decode cX8_copy 1 = .ok (.istore_n 3, 1) := by decide +kernel
theorem dX8_copy_2 : decode cX8_copy 2 = .ok (.iload_n 3, 1) := by decide +kernel
theorem dX8_copy_3 : decode cX8_copy 3 = .ok (.sipush 275, 3) := by decide +kernel
theorem dX8_copy_6 : decode cX8_copy 6 = .ok (.if_icmp .ge 25, 3) := by decide +kernel
theorem dX8_copy_9 : decode cX8_copy 9 = .ok (.aload_n 0, 1) := by decide +kernel
theorem dX8_copy_10 : decode cX8_copy 10 = .ok (.getfield 7, 3) := by decide +kernel
theorem dX8_copy_13 : decode cX8_copy 13 = .ok (.iload_n 2, 1) := by decide +kernel
theorem dX8_copy_14 : decode cX8_copy 14 = .ok (.iload_n 3, 1) := by decide +kernel
theorem dX8_copy_15 : decode cX8_copy 15 = .ok (.iadd, 1) := by decide +kernel
theorem dX8_copy_16 : decode cX8_copy 16 = .ok (.aload_n 0, 1) := by decide +kernel
theorem dX8_copy_17 : decode cX8_copy 17 = .ok (.getfield 7, 3) := by decide +kernel
theorem dX8_copy_20 : decode cX8_copy 20 = .ok (.iload_n 1, 1) := by decide +kernel
theorem dX8_copy_21 : decode cX8_copy 21 = .ok (.iload_n 3, 1) := by decide +kernel
theorem dX8_copy_22 : decode cX8_copy 22 = .ok (.iadd, 1) := by decide +kernel
theorem dX8_copy_23 : decode cX8_copy 23 = .ok (.iaload, 1) := by decide +kernel
theorem dX8_copy_24 : decode cX8_copy 24 = .ok (.iastore, 1) := by decide +kernel
theorem dX8_copy_25 : decode cX8_copy 25 = .ok (.iinc 3 1, 3) := by decide +kernel
theorem dX8_copy_28 : decode cX8_copy 28 = .ok (.goto (-26), 3) := by decide +kernel
theorem dX8_copy_31 : decode cX8_copy 31 = .ok (.return_, 1) := by decide +kernel
theorem dX8_isGrade_0 : decode cX8_isGrade 0 = .ok (.iload_n 0, 1) := by decide +kernel
theorem dX8_isGrade_1 : decode cX8_isGrade 1 = .ok (.i2l, 1) := by decide +kernel
theorem dX8_isGrade_2 : decode cX8_isGrade 2 = .ok (.lconst 0, 1) := by decide +kernel
theorem dX8_isGrade_3 : decode cX8_isGrade 3 = .ok (.ldc2_w 48, 3) := by decide +kernel
theorem dX8_isGrade_6 : decode cX8_isGrade 6 = .ok (.invokestatic 50, 3) := by decide +kernel
theorem dX8_isGrade_9 : decode cX8_isGrade 9 = .ok (.ireturn, 1) := by decide +kernel
theorem dX8_isSize_0 : decode cX8_isSize 0 = .ok (.iload_n 0, 1) := by decide +kernel
theorem dX8_isSize_1 : decode cX8_isSize 1 = .ok (.i2l, 1) := by decide +kernel
theorem dX8_isSize_2 : decode cX8_isSize 2 = .ok (.lconst 0, 1) := by decide +kernel
theorem dX8_isSize_3 : decode cX8_isSize 3 = .ok (.ldc2_w 54, 3) := by decide +kernel
theorem dX8_isSize_6 : decode cX8_isSize 6 = .ok (.invokestatic 50, 3) := by decide +kernel
theorem dX8_isSize_9 : decode cX8_isSize 9 = .ok (.ireturn, 1) := by decide +kernel
theorem dX8_isShaft_0 : decode cX8_isShaft 0 = .ok (.iload_n 1, 1) := by decide +kernel
theorem dX8_isShaft_1 : decode cX8_isShaft 1 = .ok (.i2l, 1) := by decide +kernel
theorem dX8_isShaft_2 : decode cX8_isShaft 2 = .ok (.lconst 0, 1) := by decide +kernel
theorem dX8_isShaft_3 : decode cX8_isShaft 3 = .ok (.aload_n 0, 1) := by decide +kernel
theorem dX8_isShaft_4 : decode cX8_isShaft 4 = .ok (.getfield 7, 3) := by decide +kernel
theorem dX8_isShaft_7 : decode cX8_isShaft 7 = .ok (.bipush 8, 2) := by decide +kernel
theorem dX8_isShaft_9 : decode cX8_isShaft 9 = .ok (.iaload, 1) := by decide +kernel
theorem dX8_isShaft_10 : decode cX8_isShaft 10 = .ok (.iconst 1, 1) := by decide +kernel
theorem dX8_isShaft_11 : decode cX8_isShaft 11 = .ok (.isub, 1) := by decide +kernel
theorem dX8_isShaft_12 : decode cX8_isShaft 12 = .ok (.i2l, 1) := by decide +kernel
theorem dX8_isShaft_13 : decode cX8_isShaft 13 = .ok (.invokestatic 50, 3) := by decide +kernel
theorem dX8_isShaft_16 : decode cX8_isShaft 16 = .ok (.ireturn, 1) := by decide +kernel
theorem dX8_isBore_0 : decode cX8_isBore 0 = .ok (.iload_n 1, 1) := by decide +kernel
theorem dX8_isBore_1 : decode cX8_isBore 1 = .ok (.i2l, 1) := by decide +kernel
theorem dX8_isBore_2 : decode cX8_isBore 2 = .ok (.lconst 0, 1) := by decide +kernel
theorem dX8_isBore_3 : decode cX8_isBore 3 = .ok (.aload_n 0, 1) := by decide +kernel
theorem dX8_isBore_4 : decode cX8_isBore 4 = .ok (.getfield 7, 3) := by decide +kernel
theorem dX8_isBore_7 : decode cX8_isBore 7 = .ok (.bipush 57, 2) := by decide +kernel
theorem dX8_isBore_9 : decode cX8_isBore 9 = .ok (.iaload, 1) := by decide +kernel
theorem dX8_isBore_10 : decode cX8_isBore 10 = .ok (.iconst 1, 1) := by decide +kernel
theorem dX8_isBore_11 : decode cX8_isBore 11 = .ok (.isub, 1) := by decide +kernel
theorem dX8_isBore_12 : decode cX8_isBore 12 = .ok (.i2l, 1) := by decide +kernel
theorem dX8_isBore_13 : decode cX8_isBore 13 = .ok (.invokestatic 50, 3) := by decide +kernel
theorem dX8_isBore_16 : decode cX8_isBore 16 = .ok (.ireturn, 1) := by decide +kernel
theorem dX8_begin_0 : decode cX8_begin 0 = .ok (.aload_n 0, 1) := by decide +kernel
theorem dX8_begin_1 : decode cX8_begin 1 = .ok (.getfield 7, 3) := by decide +kernel
theorem dX8_begin_4 : decode cX8_begin 4 = .ok (.bipush 33, 2) := by decide +kernel
theorem dX8_begin_6 : decode cX8_begin 6 = .ok (.iload_n 1, 1) := by decide +kernel
theorem dX8_begin_7 : decode cX8_begin 7 = .ok (.iadd, 1) := by decide +kernel
theorem dX8_begin_8 : decode cX8_begin 8 = .ok (.iaload, 1) := by decide +kernel
theorem dX8_begin_9 : decode cX8_begin 9 = .ok (.aload_n 0, 1) := by decide +kernel
theorem dX8_begin_10 : decode cX8_begin 10 = .ok (.getfield 7, 3) := by decide +kernel
theorem dX8_begin_13 : decode cX8_begin 13 = .ok (.iconst 0, 1) := by decide +kernel
theorem dX8_begin_14 : decode cX8_begin 14 = .ok (.aload_n 0, 1) := by decide +kernel
theorem dX8_begin_15 : decode cX8_begin 15 = .ok (.getfield 7, 3) := by decide +kernel
theorem dX8_begin_18 : decode cX8_begin 18 = .ok (.bipush 9, 2) := by decide +kernel
theorem dX8_begin_20 : decode cX8_begin 20 = .ok (.iload_n 1, 1) := by decide +kernel
theorem dX8_begin_21 : decode cX8_begin 21 = .ok (.iadd, 1) := by decide +kernel
theorem dX8_begin_22 : decode cX8_begin 22 = .ok (.iaload, 1) := by decide +kernel
theorem dX8_begin_23 : decode cX8_begin 23 = .ok (.iadd, 1) := by decide +kernel
theorem dX8_begin_24 : decode cX8_begin 24 = .ok (.iaload, 1) := by decide +kernel
theorem dX8_begin_25 : decode cX8_begin 25 = .ok (.iadd, 1) := by decide +kernel
theorem dX8_begin_26 : decode cX8_begin 26 = .ok (.ireturn, 1) := by decide +kernel
theorem dX8_end_0 : decode cX8_end 0 = .ok (.aload_n 0, 1) := by decide +kernel
theorem dX8_end_1 : decode cX8_end 1 = .ok (.getfield 7, 3) := by decide +kernel
theorem dX8_end_4 : decode cX8_end 4 = .ok (.bipush 33, 2) := by decide +kernel
theorem dX8_end_6 : decode cX8_end 6 = .ok (.iload_n 1, 1) := by decide +kernel
theorem dX8_end_7 : decode cX8_end 7 = .ok (.iadd, 1) := by decide +kernel
theorem dX8_end_8 : decode cX8_end 8 = .ok (.iaload, 1) := by decide +kernel
theorem dX8_end_9 : decode cX8_end 9 = .ok (.aload_n 0, 1) := by decide +kernel
theorem dX8_end_10 : decode cX8_end 10 = .ok (.getfield 7, 3) := by decide +kernel
theorem dX8_end_13 : decode cX8_end 13 = .ok (.iconst 4, 1) := by decide +kernel
theorem dX8_end_14 : decode cX8_end 14 = .ok (.aload_n 0, 1) := by decide +kernel
theorem dX8_end_15 : decode cX8_end 15 = .ok (.getfield 7, 3) := by decide +kernel
theorem dX8_end_18 : decode cX8_end 18 = .ok (.bipush 9, 2) := by decide +kernel
theorem dX8_end_20 : decode cX8_end 20 = .ok (.iload_n 1, 1) := by decide +kernel
theorem dX8_end_21 : decode cX8_end 21 = .ok (.iadd, 1) := by decide +kernel
theorem dX8_end_22 : decode cX8_end 22 = .ok (.iaload, 1) := by decide +kernel
theorem dX8_end_23 : decode cX8_end 23 = .ok (.iadd, 1) := by decide +kernel
theorem dX8_end_24 : decode cX8_end 24 = .ok (.iaload, 1) := by decide +kernel
theorem dX8_end_25 : decode cX8_end 25 = .ok (.iadd, 1) := by decide +kernel
theorem dX8_end_26 : decode cX8_end 26 = .ok (.ireturn, 1) := by decide +kernel
theorem dX8_fits_0 : decode cX8_fits 0 = .ok (.iload_n 2, 1) := by decide +kernel
theorem dX8_fits_1 : decode cX8_fits 1 = .ok (.i2l, 1) := by decide +kernel
theorem dX8_fits_2 : decode cX8_fits 2 = .ok (.aload_n 0, 1) := by decide +kernel
theorem dX8_fits_3 : decode cX8_fits 3 = .ok (.iload_n 1, 1) := by decide +kernel
theorem dX8_fits_4 : decode cX8_fits 4 = .ok (.invokevirtual 56, 3) := by decide +kernel
theorem dX8_fits_7 : decode cX8_fits 7 = .ok (.i2l, 1) := by decide +kernel
theorem dX8_fits_8 : decode cX8_fits 8 = .ok (.aload_n 0, 1) := by decide +kernel
theorem dX8_fits_9 : decode cX8_fits 9 = .ok (.iload_n 1, 1) := by decide +kernel
theorem dX8_fits_10 : decode cX8_fits 10 = .ok (.invokevirtual 60, 3) := by decide +kernel
theorem dX8_fits_13 : decode cX8_fits 13 = .ok (.i2l, 1) := by decide +kernel
theorem dX8_fits_14 : decode cX8_fits 14 = .ok (.invokestatic 50, 3) := by decide +kernel
theorem dX8_fits_17 : decode cX8_fits 17 = .ok (.ireturn, 1) := by decide +kernel
theorem dX8_closesFirst_0 : decode cX8_closesFirst 0 = .ok (.iconst (-1), 1) := by decide +kernel
theorem dX8_closesFirst_1 : decode cX8_closesFirst 1 = .ok (.istore_n 3, 1) := by decide +kernel
theorem dX8_closesFirst_2 : decode cX8_closesFirst 2 = .ok (.iconst 0, 1) := by decide +kernel
theorem dX8_closesFirst_3 : decode cX8_closesFirst 3 = .ok (.istore 4, 2) := by decide +kernel
theorem dX8_closesFirst_5 : decode cX8_closesFirst 5 = .ok (.iload 4, 2) := by decide +kernel
theorem dX8_closesFirst_7 : decode cX8_closesFirst 7 = .ok (.aload_n 0, 1) := by decide +kernel
theorem dX8_closesFirst_8 : decode cX8_closesFirst 8 = .ok (.getfield 7, 3) := by decide +kernel
theorem dX8_closesFirst_11 : decode cX8_closesFirst 11 = .ok (.bipush 8, 2) := by decide +kernel
theorem dX8_closesFirst_13 : decode cX8_closesFirst 13 = .ok (.iaload, 1) := by decide +kernel
theorem dX8_closesFirst_14 : decode cX8_closesFirst 14 = .ok (.if_icmp .ge 120, 3) := by decide +kernel
theorem dX8_closesFirst_17 : decode cX8_closesFirst 17 = .ok (.aload_n 0, 1) := by decide +kernel
theorem dX8_closesFirst_18 : decode cX8_closesFirst 18 = .ok (.getfield 20, 3) := by decide +kernel
theorem dX8_closesFirst_21 : decode cX8_closesFirst 21 = .ok (.iload 4, 2) := by decide +kernel
theorem dX8_closesFirst_23 : decode cX8_closesFirst 23 = .ok (.iaload, 1) := by decide +kernel
theorem dX8_closesFirst_24 : decode cX8_closesFirst 24 = .ok (.iconst (-1), 1) := by decide +kernel
theorem dX8_closesFirst_25 : decode cX8_closesFirst 25 = .ok (.if_icmp .ne 103, 3) := by decide +kernel
theorem dX8_closesFirst_28 : decode cX8_closesFirst 28 = .ok (.iload_n 1, 1) := by decide +kernel
theorem dX8_closesFirst_29 : decode cX8_closesFirst 29 = .ok (.i2l, 1) := by decide +kernel
theorem dX8_closesFirst_30 : decode cX8_closesFirst 30 = .ok (.aload_n 0, 1) := by decide +kernel
theorem dX8_closesFirst_31 : decode cX8_closesFirst 31 = .ok (.iload 4, 2) := by decide +kernel
theorem dX8_closesFirst_33 : decode cX8_closesFirst 33 = .ok (.invokevirtual 56, 3) := by decide +kernel
theorem dX8_closesFirst_36 : decode cX8_closesFirst 36 = .ok (.iload_n 2, 1) := by decide +kernel
theorem dX8_closesFirst_37 : decode cX8_closesFirst 37 = .ok (.isub, 1) := by decide +kernel
theorem dX8_closesFirst_38 : decode cX8_closesFirst 38 = .ok (.i2l, 1) := by decide +kernel
theorem dX8_closesFirst_39 : decode cX8_closesFirst 39 = .ok (.aload_n 0, 1) := by decide +kernel
theorem dX8_closesFirst_40 : decode cX8_closesFirst 40 = .ok (.iload 4, 2) := by decide +kernel
theorem dX8_closesFirst_42 : decode cX8_closesFirst 42 = .ok (.invokevirtual 60, 3) := by decide +kernel
theorem dX8_closesFirst_45 : decode cX8_closesFirst 45 = .ok (.iload_n 2, 1) := by decide +kernel
theorem dX8_closesFirst_46 : decode cX8_closesFirst 46 = .ok (.iadd, 1) := by decide +kernel
theorem dX8_closesFirst_47 : decode cX8_closesFirst 47 = .ok (.i2l, 1) := by decide +kernel
theorem dX8_closesFirst_48 : decode cX8_closesFirst 48 = .ok (.invokestatic 50, 3) := by decide +kernel
theorem dX8_closesFirst_51 : decode cX8_closesFirst 51 = .ok (.ifCond .eq 77, 3) := by decide +kernel
theorem dX8_closesFirst_54 : decode cX8_closesFirst 54 = .ok (.iload_n 3, 1) := by decide +kernel
theorem dX8_closesFirst_55 : decode cX8_closesFirst 55 = .ok (.iconst (-1), 1) := by decide +kernel
theorem dX8_closesFirst_56 : decode cX8_closesFirst 56 = .ok (.if_icmp .eq 53, 3) := by decide +kernel
theorem dX8_closesFirst_59 : decode cX8_closesFirst 59 = .ok (.aload_n 0, 1) := by decide +kernel
theorem dX8_closesFirst_60 : decode cX8_closesFirst 60 = .ok (.iload 4, 2) := by decide +kernel
theorem dX8_closesFirst_62 : decode cX8_closesFirst 62 = .ok (.invokevirtual 60, 3) := by decide +kernel
theorem dX8_closesFirst_65 : decode cX8_closesFirst 65 = .ok (.aload_n 0, 1) := by decide +kernel
theorem dX8_closesFirst_66 : decode cX8_closesFirst 66 = .ok (.iload_n 3, 1) := by decide +kernel
theorem dX8_closesFirst_67 : decode cX8_closesFirst 67 = .ok (.invokevirtual 60, 3) := by decide +kernel
theorem dX8_closesFirst_70 : decode cX8_closesFirst 70 = .ok (.if_icmp .lt 39, 3) := by decide +kernel
theorem dX8_closesFirst_73 : decode cX8_closesFirst 73 = .ok (.aload_n 0, 1) := by decide +kernel
theorem dX8_closesFirst_74 : decode cX8_closesFirst 74 = .ok (.iload 4, 2) := by decide +kernel
theorem dX8_closesFirst_76 : decode cX8_closesFirst 76 = .ok (.invokevirtual 60, 3) := by decide +kernel
theorem dX8_closesFirst_79 : decode cX8_closesFirst 79 = .ok (.aload_n 0, 1) := by decide +kernel
theorem dX8_closesFirst_80 : decode cX8_closesFirst 80 = .ok (.iload_n 3, 1) := by decide +kernel
theorem dX8_closesFirst_81 : decode cX8_closesFirst 81 = .ok (.invokevirtual 60, 3) := by decide +kernel
theorem dX8_closesFirst_84 : decode cX8_closesFirst 84 = .ok (.if_icmp .ne 29, 3) := by decide +kernel
theorem dX8_closesFirst_87 : decode cX8_closesFirst 87 = .ok (.aload_n 0, 1) := by decide +kernel
theorem dX8_closesFirst_88 : decode cX8_closesFirst 88 = .ok (.getfield 7, 3) := by decide +kernel
theorem dX8_closesFirst_91 : decode cX8_closesFirst 91 = .ok (.bipush 33, 2) := by decide +kernel
theorem dX8_closesFirst_93 : decode cX8_closesFirst 93 = .ok (.iload 4, 2) := by decide +kernel
theorem dX8_closesFirst_95 : decode cX8_closesFirst 95 = .ok (.iadd, 1) := by decide +kernel
theorem dX8_closesFirst_96 : decode cX8_closesFirst 96 = .ok (.iaload, 1) := by decide +kernel
theorem dX8_closesFirst_97 : decode cX8_closesFirst 97 = .ok (.aload_n 0, 1) := by decide +kernel
theorem dX8_closesFirst_98 : decode cX8_closesFirst 98 = .ok (.getfield 7, 3) := by decide +kernel
theorem dX8_closesFirst_101 : decode cX8_closesFirst 101 = .ok (.bipush 33, 2) := by decide +kernel
theorem dX8_closesFirst_103 : decode cX8_closesFirst 103 = .ok (.iload_n 3, 1) := by decide +kernel
theorem dX8_closesFirst_104 : decode cX8_closesFirst 104 = .ok (.iadd, 1) := by decide +kernel
theorem dX8_closesFirst_105 : decode cX8_closesFirst 105 = .ok (.iaload, 1) := by decide +kernel
theorem dX8_closesFirst_106 : decode cX8_closesFirst 106 = .ok (.if_icmp .ge 7, 3) := by decide +kernel
theorem dX8_closesFirst_109 : decode cX8_closesFirst 109 = .ok (.iconst 1, 1) := by decide +kernel
theorem dX8_closesFirst_110 : decode cX8_closesFirst 110 = .ok (.goto 4, 3) := by decide +kernel
theorem dX8_closesFirst_113 : decode cX8_closesFirst 113 = .ok (.iconst 0, 1) := by decide +kernel
theorem dX8_closesFirst_114 : decode cX8_closesFirst 114 = .ok (.istore 5, 2) := by decide +kernel
theorem dX8_closesFirst_116 : decode cX8_closesFirst 116 = .ok (.iload 5, 2) := by decide +kernel
theorem dX8_closesFirst_118 : decode cX8_closesFirst 118 = .ok (.ifCond .eq 8, 3) := by decide +kernel
theorem dX8_closesFirst_121 : decode cX8_closesFirst 121 = .ok (.iload 4, 2) := by decide +kernel
theorem dX8_closesFirst_123 : decode cX8_closesFirst 123 = .ok (.goto 4, 3) := by decide +kernel
theorem dX8_closesFirst_126 : decode cX8_closesFirst 126 = .ok (.iload_n 3, 1) := by decide +kernel
theorem dX8_closesFirst_127 : decode cX8_closesFirst 127 = .ok (.istore_n 3, 1) := by decide +kernel
theorem dX8_closesFirst_128 : decode cX8_closesFirst 128 = .ok (.iinc 4 1, 3) := by decide +kernel
theorem dX8_closesFirst_131 : decode cX8_closesFirst 131 = .ok (.goto (-126), 3) := by decide +kernel
theorem dX8_closesFirst_134 : decode cX8_closesFirst 134 = .ok (.iload_n 3, 1) := by decide +kernel
theorem dX8_closesFirst_135 : decode cX8_closesFirst 135 = .ok (.ireturn, 1) := by decide +kernel
theorem dX8_pairs_0 : decode cX8_pairs 0 = .ok (.aload_n 0, 1) := by decide +kernel
theorem dX8_pairs_1 : decode cX8_pairs 1 = .ok (.getfield 7, 3) := by decide +kernel
theorem dX8_pairs_4 : decode cX8_pairs 4 = .ok (.bipush 57, 2) := by decide +kernel
theorem dX8_pairs_6 : decode cX8_pairs 6 = .ok (.iaload, 1) := by decide +kernel
theorem dX8_pairs_7 : decode cX8_pairs 7 = .ok (.istore_n 3, 1) := by decide +kernel
theorem dX8_pairs_8 : decode cX8_pairs 8 = .ok (.iconst 0, 1) := by decide +kernel
theorem dX8_pairs_9 : decode cX8_pairs 9 = .ok (.istore 4, 2) := by decide +kernel
theorem dX8_pairs_11 : decode cX8_pairs 11 = .ok (.iload 4, 2) := by decide +kernel
theorem dX8_pairs_13 : decode cX8_pairs 13 = .ok (.iload_n 3, 1) := by decide +kernel
end
section
theorem dX8_pairs_14 : decode cX8_pairs 14 = .ok (.if_icmp .ge 26, 3) := by decide +kernel
theorem dX8_pairs_17 : decode cX8_pairs 17 = .ok (.aload_n 0, 1) := by decide +kernel
theorem dX8_pairs_18 : decode cX8_pairs 18 = .ok (.getfield 26, 3) := by decide +kernel
theorem dX8_pairs_21 : decode cX8_pairs 21 = .ok (.iload 4, 2) := by decide +kernel
theorem dX8_pairs_23 : decode cX8_pairs 23 = .ok (.aload_n 0, 1) := by decide +kernel
theorem dX8_pairs_24 : decode cX8_pairs 24 = .ok (.getfield 7, 3) := by decide +kernel
theorem dX8_pairs_27 : decode cX8_pairs 27 = .ok (.bipush 58, 2) := by decide +kernel
theorem dX8_pairs_29 : decode cX8_pairs 29 = .ok (.iload 4, 2) := by decide +kernel
theorem dX8_pairs_31 : decode cX8_pairs 31 = .ok (.iadd, 1) := by decide +kernel
theorem dX8_pairs_32 : decode cX8_pairs 32 = .ok (.iaload, 1) := by decide +kernel
theorem dX8_pairs_33 : decode cX8_pairs 33 = .ok (.iastore, 1) := by decide +kernel
theorem dX8_pairs_34 : decode cX8_pairs 34 = .ok (.iinc 4 1, 3) := by decide +kernel
theorem dX8_pairs_37 : decode cX8_pairs 37 = .ok (.goto (-26), 3) := by decide +kernel
theorem dX8_pairs_40 : decode cX8_pairs 40 = .ok (.iload_n 2, 1) := by decide +kernel
theorem dX8_pairs_41 : decode cX8_pairs 41 = .ok (.iconst (-1), 1) := by decide +kernel
theorem dX8_pairs_42 : decode cX8_pairs 42 = .ok (.if_icmp .eq 13, 3) := by decide +kernel
theorem dX8_pairs_45 : decode cX8_pairs 45 = .ok (.aload_n 0, 1) := by decide +kernel
theorem dX8_pairs_46 : decode cX8_pairs 46 = .ok (.getfield 26, 3) := by decide +kernel
theorem dX8_pairs_49 : decode cX8_pairs 49 = .ok (.iload_n 3, 1) := by decide +kernel
theorem dX8_pairs_50 : decode cX8_pairs 50 = .ok (.iload_n 2, 1) := by decide +kernel
theorem dX8_pairs_51 : decode cX8_pairs 51 = .ok (.iastore, 1) := by decide +kernel
theorem dX8_pairs_52 : decode cX8_pairs 52 = .ok (.iinc 3 1, 3) := by decide +kernel
theorem dX8_pairs_55 : decode cX8_pairs 55 = .ok (.iconst 0, 1) := by decide +kernel
theorem dX8_pairs_56 : decode cX8_pairs 56 = .ok (.istore 4, 2) := by decide +kernel
theorem dX8_pairs_58 : decode cX8_pairs 58 = .ok (.iload 4, 2) := by decide +kernel
theorem dX8_pairs_60 : decode cX8_pairs 60 = .ok (.bipush 24, 2) := by decide +kernel
theorem dX8_pairs_62 : decode cX8_pairs 62 = .ok (.if_icmp .ge 17, 3) := by decide +kernel
theorem dX8_pairs_65 : decode cX8_pairs 65 = .ok (.aload_n 0, 1) := by decide +kernel
theorem dX8_pairs_66 : decode cX8_pairs 66 = .ok (.getfield 20, 3) := by decide +kernel
theorem dX8_pairs_69 : decode cX8_pairs 69 = .ok (.iload 4, 2) := by decide +kernel
theorem dX8_pairs_71 : decode cX8_pairs 71 = .ok (.iconst (-1), 1) := by decide +kernel
theorem dX8_pairs_72 : decode cX8_pairs 72 = .ok (.iastore, 1) := by decide +kernel
theorem dX8_pairs_73 : decode cX8_pairs 73 = .ok (.iinc 4 1, 3) := by decide +kernel
theorem dX8_pairs_76 : decode cX8_pairs 76 = .ok (.goto (-18), 3) := by decide +kernel
theorem dX8_pairs_79 : decode cX8_pairs 79 = .ok (.iconst 0, 1) := by decide +kernel
theorem dX8_pairs_80 : decode cX8_pairs 80 = .ok (.istore 4, 2) := by decide +kernel
theorem dX8_pairs_82 : decode cX8_pairs 82 = .ok (.iload 4, 2) := by decide +kernel
theorem dX8_pairs_84 : decode cX8_pairs 84 = .ok (.bipush 24, 2) := by decide +kernel
theorem dX8_pairs_86 : decode cX8_pairs 86 = .ok (.if_icmp .gt 17, 3) := by decide +kernel
theorem dX8_pairs_89 : decode cX8_pairs 89 = .ok (.aload_n 0, 1) := by decide +kernel
theorem dX8_pairs_90 : decode cX8_pairs 90 = .ok (.getfield 23, 3) := by decide +kernel
theorem dX8_pairs_93 : decode cX8_pairs 93 = .ok (.iload 4, 2) := by decide +kernel
theorem dX8_pairs_95 : decode cX8_pairs 95 = .ok (.iconst (-1), 1) := by decide +kernel
theorem dX8_pairs_96 : decode cX8_pairs 96 = .ok (.iastore, 1) := by decide +kernel
theorem dX8_pairs_97 : decode cX8_pairs 97 = .ok (.iinc 4 1, 3) := by decide +kernel
theorem dX8_pairs_100 : decode cX8_pairs 100 = .ok (.goto (-18), 3) := by decide +kernel
theorem dX8_pairs_103 : decode cX8_pairs 103 = .ok (.iconst 0, 1) := by decide +kernel
theorem dX8_pairs_104 : decode cX8_pairs 104 = .ok (.istore 4, 2) := by decide +kernel
theorem dX8_pairs_106 : decode cX8_pairs 106 = .ok (.iconst (-1), 1) := by decide +kernel
theorem dX8_pairs_107 : decode cX8_pairs 107 = .ok (.istore 5, 2) := by decide +kernel
theorem dX8_pairs_109 : decode cX8_pairs 109 = .ok (.iconst (-1), 1) := by decide +kernel
theorem dX8_pairs_110 : decode cX8_pairs 110 = .ok (.istore 6, 2) := by decide +kernel
theorem dX8_pairs_112 : decode cX8_pairs 112 = .ok (.iconst 0, 1) := by decide +kernel
theorem dX8_pairs_113 : decode cX8_pairs 113 = .ok (.istore 7, 2) := by decide +kernel
theorem dX8_pairs_115 : decode cX8_pairs 115 = .ok (.iload 7, 2) := by decide +kernel
theorem dX8_pairs_117 : decode cX8_pairs 117 = .ok (.iload_n 3, 1) := by decide +kernel
theorem dX8_pairs_118 : decode cX8_pairs 118 = .ok (.if_icmp .ge 152, 3) := by decide +kernel
theorem dX8_pairs_121 : decode cX8_pairs 121 = .ok (.iconst (-1), 1) := by decide +kernel
theorem dX8_pairs_122 : decode cX8_pairs 122 = .ok (.istore 8, 2) := by decide +kernel
theorem dX8_pairs_124 : decode cX8_pairs 124 = .ok (.iload_n 3, 1) := by decide +kernel
theorem dX8_pairs_125 : decode cX8_pairs 125 = .ok (.iconst 1, 1) := by decide +kernel
theorem dX8_pairs_126 : decode cX8_pairs 126 = .ok (.isub, 1) := by decide +kernel
theorem dX8_pairs_127 : decode cX8_pairs 127 = .ok (.istore 9, 2) := by decide +kernel
theorem dX8_pairs_129 : decode cX8_pairs 129 = .ok (.iload 9, 2) := by decide +kernel
theorem dX8_pairs_131 : decode cX8_pairs 131 = .ok (.ifCond .lt 84, 3) := by decide +kernel
theorem dX8_pairs_134 : decode cX8_pairs 134 = .ok (.aload_n 0, 1) := by decide +kernel
theorem dX8_pairs_135 : decode cX8_pairs 135 = .ok (.getfield 26, 3) := by decide +kernel
theorem dX8_pairs_138 : decode cX8_pairs 138 = .ok (.iload 9, 2) := by decide +kernel
theorem dX8_pairs_140 : decode cX8_pairs 140 = .ok (.iaload, 1) := by decide +kernel
theorem dX8_pairs_141 : decode cX8_pairs 141 = .ok (.iload 6, 2) := by decide +kernel
theorem dX8_pairs_143 : decode cX8_pairs 143 = .ok (.if_icmp .gt 22, 3) := by decide +kernel
theorem dX8_pairs_146 : decode cX8_pairs 146 = .ok (.aload_n 0, 1) := by decide +kernel
theorem dX8_pairs_147 : decode cX8_pairs 147 = .ok (.getfield 26, 3) := by decide +kernel
theorem dX8_pairs_150 : decode cX8_pairs 150 = .ok (.iload 9, 2) := by decide +kernel
theorem dX8_pairs_152 : decode cX8_pairs 152 = .ok (.iaload, 1) := by decide +kernel
theorem dX8_pairs_153 : decode cX8_pairs 153 = .ok (.iload 6, 2) := by decide +kernel
theorem dX8_pairs_155 : decode cX8_pairs 155 = .ok (.if_icmp .ne 14, 3) := by decide +kernel
theorem dX8_pairs_158 : decode cX8_pairs 158 = .ok (.iload 9, 2) := by decide +kernel
theorem dX8_pairs_160 : decode cX8_pairs 160 = .ok (.iload 5, 2) := by decide +kernel
theorem dX8_pairs_162 : decode cX8_pairs 162 = .ok (.if_icmp .le 7, 3) := by decide +kernel
theorem dX8_pairs_165 : decode cX8_pairs 165 = .ok (.iconst 1, 1) := by decide +kernel
theorem dX8_pairs_166 : decode cX8_pairs 166 = .ok (.goto 4, 3) := by decide +kernel
theorem dX8_pairs_169 : decode cX8_pairs 169 = .ok (.iconst 0, 1) := by decide +kernel
theorem dX8_pairs_170 : decode cX8_pairs 170 = .ok (.istore 10, 2) := by decide +kernel
theorem dX8_pairs_172 : decode cX8_pairs 172 = .ok (.iload 10, 2) := by decide +kernel
theorem dX8_pairs_174 : decode cX8_pairs 174 = .ok (.ifCond .eq 31, 3) := by decide +kernel
theorem dX8_pairs_177 : decode cX8_pairs 177 = .ok (.iload 8, 2) := by decide +kernel
theorem dX8_pairs_179 : decode cX8_pairs 179 = .ok (.iconst (-1), 1) := by decide +kernel
theorem dX8_pairs_180 : decode cX8_pairs 180 = .ok (.if_icmp .eq 20, 3) := by decide +kernel
theorem dX8_pairs_183 : decode cX8_pairs 183 = .ok (.aload_n 0, 1) := by decide +kernel
theorem dX8_pairs_184 : decode cX8_pairs 184 = .ok (.getfield 26, 3) := by decide +kernel
theorem dX8_pairs_187 : decode cX8_pairs 187 = .ok (.iload 9, 2) := by decide +kernel
theorem dX8_pairs_189 : decode cX8_pairs 189 = .ok (.iaload, 1) := by decide +kernel
theorem dX8_pairs_190 : decode cX8_pairs 190 = .ok (.aload_n 0, 1) := by decide +kernel
theorem dX8_pairs_191 : decode cX8_pairs 191 = .ok (.getfield 26, 3) := by decide +kernel
theorem dX8_pairs_194 : decode cX8_pairs 194 = .ok (.iload 8, 2) := by decide +kernel
theorem dX8_pairs_196 : decode cX8_pairs 196 = .ok (.iaload, 1) := by decide +kernel
theorem dX8_pairs_197 : decode cX8_pairs 197 = .ok (.if_icmp .gt 8, 3) := by decide +kernel
theorem dX8_pairs_200 : decode cX8_pairs 200 = .ok (.iload 9, 2) := by decide +kernel
theorem dX8_pairs_202 : decode cX8_pairs 202 = .ok (.goto 5, 3) := by decide +kernel
theorem dX8_pairs_205 : decode cX8_pairs 205 = .ok (.iload 8, 2) := by decide +kernel
theorem dX8_pairs_207 : decode cX8_pairs 207 = .ok (.istore 8, 2) := by decide +kernel
theorem dX8_pairs_209 : decode cX8_pairs 209 = .ok (.iinc 9 (-1), 3) := by decide +kernel
theorem dX8_pairs_212 : decode cX8_pairs 212 = .ok (.goto (-83), 3) := by decide +kernel
theorem dX8_pairs_215 : decode cX8_pairs 215 = .ok (.iload 8, 2) := by decide +kernel
theorem dX8_pairs_217 : decode cX8_pairs 217 = .ok (.istore 5, 2) := by decide +kernel
theorem dX8_pairs_219 : decode cX8_pairs 219 = .ok (.aload_n 0, 1) := by decide +kernel
theorem dX8_pairs_220 : decode cX8_pairs 220 = .ok (.getfield 26, 3) := by decide +kernel
theorem dX8_pairs_223 : decode cX8_pairs 223 = .ok (.iload 8, 2) := by decide +kernel
theorem dX8_pairs_225 : decode cX8_pairs 225 = .ok (.iaload, 1) := by decide +kernel
theorem dX8_pairs_226 : decode cX8_pairs 226 = .ok (.istore 6, 2) := by decide +kernel
theorem dX8_pairs_228 : decode cX8_pairs 228 = .ok (.aload_n 0, 1) := by decide +kernel
theorem dX8_pairs_229 : decode cX8_pairs 229 = .ok (.iload 6, 2) := by decide +kernel
theorem dX8_pairs_231 : decode cX8_pairs 231 = .ok (.iload_n 1, 1) := by decide +kernel
theorem dX8_pairs_232 : decode cX8_pairs 232 = .ok (.invokevirtual 63, 3) := by decide +kernel
theorem dX8_pairs_235 : decode cX8_pairs 235 = .ok (.istore 9, 2) := by decide +kernel
theorem dX8_pairs_237 : decode cX8_pairs 237 = .ok (.aload_n 0, 1) := by decide +kernel
theorem dX8_pairs_238 : decode cX8_pairs 238 = .ok (.getfield 23, 3) := by decide +kernel
theorem dX8_pairs_241 : decode cX8_pairs 241 = .ok (.iload 8, 2) := by decide +kernel
theorem dX8_pairs_243 : decode cX8_pairs 243 = .ok (.iload 9, 2) := by decide +kernel
theorem dX8_pairs_245 : decode cX8_pairs 245 = .ok (.iastore, 1) := by decide +kernel
theorem dX8_pairs_246 : decode cX8_pairs 246 = .ok (.iload 9, 2) := by decide +kernel
theorem dX8_pairs_248 : decode cX8_pairs 248 = .ok (.iconst (-1), 1) := by decide +kernel
theorem dX8_pairs_249 : decode cX8_pairs 249 = .ok (.if_icmp .eq 15, 3) := by decide +kernel
theorem dX8_pairs_252 : decode cX8_pairs 252 = .ok (.aload_n 0, 1) := by decide +kernel
theorem dX8_pairs_253 : decode cX8_pairs 253 = .ok (.getfield 20, 3) := by decide +kernel
theorem dX8_pairs_256 : decode cX8_pairs 256 = .ok (.iload 9, 2) := by decide +kernel
theorem dX8_pairs_258 : decode cX8_pairs 258 = .ok (.iload 8, 2) := by decide +kernel
theorem dX8_pairs_260 : decode cX8_pairs 260 = .ok (.iastore, 1) := by decide +kernel
theorem dX8_pairs_261 : decode cX8_pairs 261 = .ok (.iinc 4 1, 3) := by decide +kernel
theorem dX8_pairs_264 : decode cX8_pairs 264 = .ok (.iinc 7 1, 3) := by decide +kernel
theorem dX8_pairs_267 : decode cX8_pairs 267 = .ok (.goto (-152), 3) := by decide +kernel
theorem dX8_pairs_270 : decode cX8_pairs 270 = .ok (.iload 4, 2) := by decide +kernel
theorem dX8_pairs_272 : decode cX8_pairs 272 = .ok (.ireturn, 1) := by decide +kernel
theorem dX8_now_0 : decode cX8_now 0 = .ok (.aload_n 0, 1) := by decide +kernel
theorem dX8_now_1 : decode cX8_now 1 = .ok (.iconst 0, 1) := by decide +kernel
theorem dX8_now_2 : decode cX8_now 2 = .ok (.iconst (-1), 1) := by decide +kernel
theorem dX8_now_3 : decode cX8_now 3 = .ok (.invokevirtual 67, 3) := by decide +kernel
theorem dX8_now_6 : decode cX8_now 6 = .ok (.ireturn, 1) := by decide +kernel
theorem dX8_playOf_0 : decode cX8_playOf 0 = .ok (.iconst (-1), 1) := by decide +kernel
theorem dX8_playOf_1 : decode cX8_playOf 1 = .ok (.istore_n 2, 1) := by decide +kernel
theorem dX8_playOf_2 : decode cX8_playOf 2 = .ok (.aload_n 0, 1) := by decide +kernel
theorem dX8_playOf_3 : decode cX8_playOf 3 = .ok (.invokevirtual 70, 3) := by decide +kernel
theorem dX8_playOf_6 : decode cX8_playOf 6 = .ok (.istore_n 3, 1) := by decide +kernel
theorem dX8_playOf_7 : decode cX8_playOf 7 = .ok (.iconst 0, 1) := by decide +kernel
theorem dX8_playOf_8 : decode cX8_playOf 8 = .ok (.istore 4, 2) := by decide +kernel
theorem dX8_playOf_10 : decode cX8_playOf 10 = .ok (.iload 4, 2) := by decide +kernel
theorem dX8_playOf_12 : decode cX8_playOf 12 = .ok (.aload_n 0, 1) := by decide +kernel
theorem dX8_playOf_13 : decode cX8_playOf 13 = .ok (.getfield 7, 3) := by decide +kernel
theorem dX8_playOf_16 : decode cX8_playOf 16 = .ok (.bipush 8, 2) := by decide +kernel
theorem dX8_playOf_18 : decode cX8_playOf 18 = .ok (.iaload, 1) := by decide +kernel
theorem dX8_playOf_19 : decode cX8_playOf 19 = .ok (.if_icmp .ge 83, 3) := by decide +kernel
theorem dX8_playOf_22 : decode cX8_playOf 22 = .ok (.iload_n 3, 1) := by decide +kernel
theorem dX8_playOf_23 : decode cX8_playOf 23 = .ok (.ifCond .le 79, 3) := by decide +kernel
theorem dX8_playOf_26 : decode cX8_playOf 26 = .ok (.aload_n 0, 1) := by decide +kernel
theorem dX8_playOf_27 : decode cX8_playOf 27 = .ok (.getfield 20, 3) := by decide +kernel
theorem dX8_playOf_30 : decode cX8_playOf 30 = .ok (.iload 4, 2) := by decide +kernel
theorem dX8_playOf_32 : decode cX8_playOf 32 = .ok (.iaload, 1) := by decide +kernel
theorem dX8_playOf_33 : decode cX8_playOf 33 = .ok (.iconst (-1), 1) := by decide +kernel
theorem dX8_playOf_34 : decode cX8_playOf 34 = .ok (.if_icmp .eq 62, 3) := by decide +kernel
theorem dX8_playOf_37 : decode cX8_playOf 37 = .ok (.aload_n 0, 1) := by decide +kernel
theorem dX8_playOf_38 : decode cX8_playOf 38 = .ok (.getfield 7, 3) := by decide +kernel
theorem dX8_playOf_41 : decode cX8_playOf 41 = .ok (.bipush 58, 2) := by decide +kernel
theorem dX8_playOf_43 : decode cX8_playOf 43 = .ok (.aload_n 0, 1) := by decide +kernel
theorem dX8_playOf_44 : decode cX8_playOf 44 = .ok (.getfield 20, 3) := by decide +kernel
theorem dX8_playOf_47 : decode cX8_playOf 47 = .ok (.iload 4, 2) := by decide +kernel
theorem dX8_playOf_49 : decode cX8_playOf 49 = .ok (.iaload, 1) := by decide +kernel
theorem dX8_playOf_50 : decode cX8_playOf 50 = .ok (.iadd, 1) := by decide +kernel
theorem dX8_playOf_51 : decode cX8_playOf 51 = .ok (.iaload, 1) := by decide +kernel
theorem dX8_playOf_52 : decode cX8_playOf 52 = .ok (.aload_n 0, 1) := by decide +kernel
theorem dX8_playOf_53 : decode cX8_playOf 53 = .ok (.getfield 7, 3) := by decide +kernel
theorem dX8_playOf_56 : decode cX8_playOf 56 = .ok (.bipush 33, 2) := by decide +kernel
theorem dX8_playOf_58 : decode cX8_playOf 58 = .ok (.iload 4, 2) := by decide +kernel
theorem dX8_playOf_60 : decode cX8_playOf 60 = .ok (.iadd, 1) := by decide +kernel
theorem dX8_playOf_61 : decode cX8_playOf 61 = .ok (.iaload, 1) := by decide +kernel
theorem dX8_playOf_62 : decode cX8_playOf 62 = .ok (.isub, 1) := by decide +kernel
theorem dX8_playOf_63 : decode cX8_playOf 63 = .ok (.istore 5, 2) := by decide +kernel
theorem dX8_playOf_65 : decode cX8_playOf 65 = .ok (.iload_n 2, 1) := by decide +kernel
theorem dX8_playOf_66 : decode cX8_playOf 66 = .ok (.iconst (-1), 1) := by decide +kernel
theorem dX8_playOf_67 : decode cX8_playOf 67 = .ok (.if_icmp .eq 22, 3) := by decide +kernel
theorem dX8_playOf_70 : decode cX8_playOf 70 = .ok (.iload_n 1, 1) := by decide +kernel
theorem dX8_playOf_71 : decode cX8_playOf 71 = .ok (.ifCond .eq 12, 3) := by decide +kernel
theorem dX8_playOf_74 : decode cX8_playOf 74 = .ok (.iload 5, 2) := by decide +kernel
theorem dX8_playOf_76 : decode cX8_playOf 76 = .ok (.iload_n 2, 1) := by decide +kernel
theorem dX8_playOf_77 : decode cX8_playOf 77 = .ok (.if_icmp .le 17, 3) := by decide +kernel
theorem dX8_playOf_80 : decode cX8_playOf 80 = .ok (.goto 9, 3) := by decide +kernel
theorem dX8_playOf_83 : decode cX8_playOf 83 = .ok (.iload 5, 2) := by decide +kernel
theorem dX8_playOf_85 : decode cX8_playOf 85 = .ok (.iload_n 2, 1) := by decide +kernel
theorem dX8_playOf_86 : decode cX8_playOf 86 = .ok (.if_icmp .ge 8, 3) := by decide +kernel
theorem dX8_playOf_89 : decode cX8_playOf 89 = .ok (.iload 5, 2) := by decide +kernel
theorem dX8_playOf_91 : decode cX8_playOf 91 = .ok (.goto 4, 3) := by decide +kernel
theorem dX8_playOf_94 : decode cX8_playOf 94 = .ok (.iload_n 2, 1) := by decide +kernel
theorem dX8_playOf_95 : decode cX8_playOf 95 = .ok (.istore_n 2, 1) := by decide +kernel
theorem dX8_playOf_96 : decode cX8_playOf 96 = .ok (.iinc 4 1, 3) := by decide +kernel
theorem dX8_playOf_99 : decode cX8_playOf 99 = .ok (.goto (-89), 3) := by decide +kernel
theorem dX8_playOf_102 : decode cX8_playOf 102 = .ok (.iload_n 2, 1) := by decide +kernel
theorem dX8_playOf_103 : decode cX8_playOf 103 = .ok (.ireturn, 1) := by decide +kernel
theorem dX8_ease_0 : decode cX8_ease 0 = .ok (.aload_n 0, 1) := by decide +kernel
theorem dX8_ease_1 : decode cX8_ease 1 = .ok (.sipush 999, 3) := by decide +kernel
theorem dX8_ease_4 : decode cX8_ease 4 = .ok (.iconst (-1), 1) := by decide +kernel
theorem dX8_ease_5 : decode cX8_ease 5 = .ok (.invokevirtual 67, 3) := by decide +kernel
theorem dX8_ease_8 : decode cX8_ease 8 = .ok (.aload_n 0, 1) := by decide +kernel
theorem dX8_ease_9 : decode cX8_ease 9 = .ok (.getfield 7, 3) := by decide +kernel
theorem dX8_ease_12 : decode cX8_ease 12 = .ok (.bipush 8, 2) := by decide +kernel
theorem dX8_ease_14 : decode cX8_ease 14 = .ok (.iaload, 1) := by decide +kernel
theorem dX8_ease_15 : decode cX8_ease 15 = .ok (.if_icmp .ge 5, 3) := by decide +kernel
theorem dX8_ease_18 : decode cX8_ease 18 = .ok (.iconst (-1), 1) := by decide +kernel
theorem dX8_ease_19 : decode cX8_ease 19 = .ok (.ireturn, 1) := by decide +kernel
theorem dX8_ease_20 : decode cX8_ease 20 = .ok (.iconst 0, 1) := by decide +kernel
theorem dX8_ease_21 : decode cX8_ease 21 = .ok (.istore_n 1, 1) := by decide +kernel
theorem dX8_ease_22 : decode cX8_ease 22 = .ok (.sipush 999, 3) := by decide +kernel
theorem dX8_ease_25 : decode cX8_ease 25 = .ok (.istore_n 2, 1) := by decide +kernel
theorem dX8_ease_26 : decode cX8_ease 26 = .ok (.iload_n 1, 1) := by decide +kernel
theorem dX8_ease_27 : decode cX8_ease 27 = .ok (.iload_n 2, 1) := by decide +kernel
theorem dX8_ease_28 : decode cX8_ease 28 = .ok (.if_icmp .ge 37, 3) := by decide +kernel
theorem dX8_ease_31 : decode cX8_ease 31 = .ok (.iload_n 1, 1) := by decide +kernel
theorem dX8_ease_32 : decode cX8_ease 32 = .ok (.iload_n 2, 1) := by decide +kernel
theorem dX8_ease_33 : decode cX8_ease 33 = .ok (.iadd, 1) := by decide +kernel
theorem dX8_ease_34 : decode cX8_ease 34 = .ok (.iconst 2, 1) := by decide +kernel
theorem dX8_ease_35 : decode cX8_ease 35 = .ok (.idiv, 1) := by decide +kernel
theorem dX8_ease_36 : decode cX8_ease 36 = .ok (.istore_n 3, 1) := by decide +kernel
theorem dX8_ease_37 : decode cX8_ease 37 = .ok (.aload_n 0, 1) := by decide +kernel
theorem dX8_ease_38 : decode cX8_ease 38 = .ok (.iload_n 3, 1) := by decide +kernel
theorem dX8_ease_39 : decode cX8_ease 39 = .ok (.iconst (-1), 1) := by decide +kernel
theorem dX8_ease_40 : decode cX8_ease 40 = .ok (.invokevirtual 67, 3) := by decide +kernel
theorem dX8_ease_43 : decode cX8_ease 43 = .ok (.aload_n 0, 1) := by decide +kernel
theorem dX8_ease_44 : decode cX8_ease 44 = .ok (.getfield 7, 3) := by decide +kernel
theorem dX8_ease_47 : decode cX8_ease 47 = .ok (.bipush 8, 2) := by decide +kernel
theorem dX8_ease_49 : decode cX8_ease 49 = .ok (.iaload, 1) := by decide +kernel
theorem dX8_ease_50 : decode cX8_ease 50 = .ok (.if_icmp .ne 8, 3) := by decide +kernel
theorem dX8_ease_53 : decode cX8_ease 53 = .ok (.iload_n 3, 1) := by decide +kernel
theorem dX8_ease_54 : decode cX8_ease 54 = .ok (.istore_n 2, 1) := by decide +kernel
theorem dX8_ease_55 : decode cX8_ease 55 = .ok (.goto 7, 3) := by decide +kernel
theorem dX8_ease_58 : decode cX8_ease 58 = .ok (.iload_n 3, 1) := by decide +kernel
theorem dX8_ease_59 : decode cX8_ease 59 = .ok (.iconst 1, 1) := by decide +kernel
theorem dX8_ease_60 : decode cX8_ease 60 = .ok (.iadd, 1) := by decide +kernel
theorem dX8_ease_61 : decode cX8_ease 61 = .ok (.istore_n 1, 1) := by decide +kernel
theorem dX8_ease_62 : decode cX8_ease 62 = .ok (.goto (-36), 3) := by decide +kernel
theorem dX8_ease_65 : decode cX8_ease 65 = .ok (.iload_n 1, 1) := by decide +kernel
theorem dX8_ease_66 : decode cX8_ease 66 = .ok (.ireturn, 1) := by decide +kernel
theorem dX8_more_0 : decode cX8_more 0 = .ok (.iconst (-1), 1) := by decide +kernel
theorem dX8_more_1 : decode cX8_more 1 = .ok (.istore_n 1, 1) := by decide +kernel
theorem dX8_more_2 : decode cX8_more 2 = .ok (.aload_n 0, 1) := by decide +kernel
theorem dX8_more_3 : decode cX8_more 3 = .ok (.invokevirtual 70, 3) := by decide +kernel
theorem dX8_more_6 : decode cX8_more 6 = .ok (.istore_n 2, 1) := by decide +kernel
theorem dX8_more_7 : decode cX8_more 7 = .ok (.iconst 0, 1) := by decide +kernel
theorem dX8_more_8 : decode cX8_more 8 = .ok (.istore_n 3, 1) := by decide +kernel
theorem dX8_more_9 : decode cX8_more 9 = .ok (.iload_n 3, 1) := by decide +kernel
theorem dX8_more_10 : decode cX8_more 10 = .ok (.aload_n 0, 1) := by decide +kernel
theorem dX8_more_11 : decode cX8_more 11 = .ok (.getfield 7, 3) := by decide +kernel
theorem dX8_more_14 : decode cX8_more 14 = .ok (.bipush 8, 2) := by decide +kernel
theorem dX8_more_16 : decode cX8_more 16 = .ok (.iaload, 1) := by decide +kernel
theorem dX8_more_17 : decode cX8_more 17 = .ok (.if_icmp .ge 65, 3) := by decide +kernel
theorem dX8_more_20 : decode cX8_more 20 = .ok (.aload_n 0, 1) := by decide +kernel
theorem dX8_more_21 : decode cX8_more 21 = .ok (.iload_n 3, 1) := by decide +kernel
theorem dX8_more_22 : decode cX8_more 22 = .ok (.invokevirtual 56, 3) := by decide +kernel
theorem dX8_more_25 : decode cX8_more 25 = .ok (.istore 4, 2) := by decide +kernel
theorem dX8_more_27 : decode cX8_more 27 = .ok (.iload 4, 2) := by decide +kernel
theorem dX8_more_29 : decode cX8_more 29 = .ok (.invokestatic 74, 3) := by decide +kernel
theorem dX8_more_32 : decode cX8_more 32 = .ok (.ifCond .eq 29, 3) := by decide +kernel
theorem dX8_more_35 : decode cX8_more 35 = .ok (.iload_n 1, 1) := by decide +kernel
theorem dX8_more_36 : decode cX8_more 36 = .ok (.iconst (-1), 1) := by decide +kernel
theorem dX8_more_37 : decode cX8_more 37 = .ok (.if_icmp .eq 9, 3) := by decide +kernel
theorem dX8_more_40 : decode cX8_more 40 = .ok (.iload 4, 2) := by decide +kernel
theorem dX8_more_42 : decode cX8_more 42 = .ok (.iload_n 1, 1) := by decide +kernel
theorem dX8_more_43 : decode cX8_more 43 = .ok (.if_icmp .ge 18, 3) := by decide +kernel
theorem dX8_more_46 : decode cX8_more 46 = .ok (.aload_n 0, 1) := by decide +kernel
theorem dX8_more_47 : decode cX8_more 47 = .ok (.iconst 0, 1) := by decide +kernel
theorem dX8_more_48 : decode cX8_more 48 = .ok (.iload 4, 2) := by decide +kernel
theorem dX8_more_50 : decode cX8_more 50 = .ok (.invokevirtual 67, 3) := by decide +kernel
theorem dX8_more_53 : decode cX8_more 53 = .ok (.iload_n 2, 1) := by decide +kernel
theorem dX8_more_54 : decode cX8_more 54 = .ok (.if_icmp .le 7, 3) := by decide +kernel
theorem dX8_more_57 : decode cX8_more 57 = .ok (.iconst 1, 1) := by decide +kernel
theorem dX8_more_58 : decode cX8_more 58 = .ok (.goto 4, 3) := by decide +kernel
theorem dX8_more_61 : decode cX8_more 61 = .ok (.iconst 0, 1) := by decide +kernel
theorem dX8_more_62 : decode cX8_more 62 = .ok (.istore 5, 2) := by decide +kernel
theorem dX8_more_64 : decode cX8_more 64 = .ok (.iload 5, 2) := by decide +kernel
theorem dX8_more_66 : decode cX8_more 66 = .ok (.ifCond .eq 8, 3) := by decide +kernel
theorem dX8_more_69 : decode cX8_more 69 = .ok (.iload 4, 2) := by decide +kernel
theorem dX8_more_71 : decode cX8_more 71 = .ok (.goto 4, 3) := by decide +kernel
theorem dX8_more_74 : decode cX8_more 74 = .ok (.iload_n 1, 1) := by decide +kernel
theorem dX8_more_75 : decode cX8_more 75 = .ok (.istore_n 1, 1) := by decide +kernel
theorem dX8_more_76 : decode cX8_more 76 = .ok (.iinc 3 1, 3) := by decide +kernel
theorem dX8_more_79 : decode cX8_more 79 = .ok (.goto (-70), 3) := by decide +kernel
theorem dX8_more_82 : decode cX8_more 82 = .ok (.iload_n 1, 1) := by decide +kernel
theorem dX8_more_83 : decode cX8_more 83 = .ok (.ireturn, 1) := by decide +kernel
theorem dX8_isSo_0 : decode cX8_isSo 0 = .ok (.iconst 1, 1) := by decide +kernel
theorem dX8_isSo_1 : decode cX8_isSo 1 = .ok (.istore_n 2, 1) := by decide +kernel
theorem dX8_isSo_2 : decode cX8_isSo 2 = .ok (.iconst 0, 1) := by decide +kernel
theorem dX8_isSo_3 : decode cX8_isSo 3 = .ok (.istore_n 3, 1) := by decide +kernel
theorem dX8_isSo_4 : decode cX8_isSo 4 = .ok (.iload_n 3, 1) := by decide +kernel
theorem dX8_isSo_5 : decode cX8_isSo 5 = .ok (.aload_n 0, 1) := by decide +kernel
theorem dX8_isSo_6 : decode cX8_isSo 6 = .ok (.getfield 78, 3) := by decide +kernel
theorem dX8_isSo_9 : decode cX8_isSo 9 = .ok (.if_icmp .ge 79, 3) := by decide +kernel
theorem dX8_isSo_12 : decode cX8_isSo 12 = .ok (.iload_n 2, 1) := by decide +kernel
theorem dX8_isSo_13 : decode cX8_isSo 13 = .ok (.ifCond .eq 75, 3) := by decide +kernel
theorem dX8_isSo_16 : decode cX8_isSo 16 = .ok (.iload_n 1, 1) := by decide +kernel
theorem dX8_isSo_17 : decode cX8_isSo 17 = .ok (.i2l, 1) := by decide +kernel
theorem dX8_isSo_18 : decode cX8_isSo 18 = .ok (.aload_n 0, 1) := by decide +kernel
theorem dX8_isSo_19 : decode cX8_isSo 19 = .ok (.getfield 32, 3) := by decide +kernel
theorem dX8_isSo_22 : decode cX8_isSo 22 = .ok (.iload_n 3, 1) := by decide +kernel
theorem dX8_isSo_23 : decode cX8_isSo 23 = .ok (.iaload, 1) := by decide +kernel
theorem dX8_isSo_24 : decode cX8_isSo 24 = .ok (.aload_n 0, 1) := by decide +kernel
theorem dX8_isSo_25 : decode cX8_isSo 25 = .ok (.getfield 7, 3) := by decide +kernel
theorem dX8_isSo_28 : decode cX8_isSo 28 = .ok (.iconst 0, 1) := by decide +kernel
theorem dX8_isSo_29 : decode cX8_isSo 29 = .ok (.aload_n 0, 1) := by decide +kernel
theorem dX8_isSo_30 : decode cX8_isSo 30 = .ok (.getfield 29, 3) := by decide +kernel
theorem dX8_isSo_33 : decode cX8_isSo 33 = .ok (.iload_n 3, 1) := by decide +kernel
theorem dX8_isSo_34 : decode cX8_isSo 34 = .ok (.iaload, 1) := by decide +kernel
theorem dX8_isSo_35 : decode cX8_isSo 35 = .ok (.iadd, 1) := by decide +kernel
theorem dX8_isSo_36 : decode cX8_isSo 36 = .ok (.iaload, 1) := by decide +kernel
theorem dX8_isSo_37 : decode cX8_isSo 37 = .ok (.iadd, 1) := by decide +kernel
theorem dX8_isSo_38 : decode cX8_isSo 38 = .ok (.i2l, 1) := by decide +kernel
theorem dX8_isSo_39 : decode cX8_isSo 39 = .ok (.aload_n 0, 1) := by decide +kernel
theorem dX8_isSo_40 : decode cX8_isSo 40 = .ok (.getfield 32, 3) := by decide +kernel
theorem dX8_isSo_43 : decode cX8_isSo 43 = .ok (.iload_n 3, 1) := by decide +kernel
theorem dX8_isSo_44 : decode cX8_isSo 44 = .ok (.iaload, 1) := by decide +kernel
theorem dX8_isSo_45 : decode cX8_isSo 45 = .ok (.aload_n 0, 1) := by decide +kernel
theorem dX8_isSo_46 : decode cX8_isSo 46 = .ok (.getfield 7, 3) := by decide +kernel
theorem dX8_isSo_49 : decode cX8_isSo 49 = .ok (.iconst 4, 1) := by decide +kernel
theorem dX8_isSo_50 : decode cX8_isSo 50 = .ok (.aload_n 0, 1) := by decide +kernel
theorem dX8_isSo_51 : decode cX8_isSo 51 = .ok (.getfield 29, 3) := by decide +kernel
theorem dX8_isSo_54 : decode cX8_isSo 54 = .ok (.iload_n 3, 1) := by decide +kernel
theorem dX8_isSo_55 : decode cX8_isSo 55 = .ok (.iaload, 1) := by decide +kernel
theorem dX8_isSo_56 : decode cX8_isSo 56 = .ok (.iadd, 1) := by decide +kernel
theorem dX8_isSo_57 : decode cX8_isSo 57 = .ok (.iaload, 1) := by decide +kernel
theorem dX8_isSo_58 : decode cX8_isSo 58 = .ok (.iadd, 1) := by decide +kernel
theorem dX8_isSo_59 : decode cX8_isSo 59 = .ok (.i2l, 1) := by decide +kernel
theorem dX8_isSo_60 : decode cX8_isSo 60 = .ok (.invokestatic 50, 3) := by decide +kernel
theorem dX8_isSo_63 : decode cX8_isSo 63 = .ok (.istore 4, 2) := by decide +kernel
theorem dX8_isSo_65 : decode cX8_isSo 65 = .ok (.iload 4, 2) := by decide +kernel
theorem dX8_isSo_67 : decode cX8_isSo 67 = .ok (.aload_n 0, 1) := by decide +kernel
theorem dX8_isSo_68 : decode cX8_isSo 68 = .ok (.getfield 35, 3) := by decide +kernel
theorem dX8_isSo_71 : decode cX8_isSo 71 = .ok (.iload_n 3, 1) := by decide +kernel
theorem dX8_isSo_72 : decode cX8_isSo 72 = .ok (.baload, 1) := by decide +kernel
theorem dX8_isSo_73 : decode cX8_isSo 73 = .ok (.if_icmp .ne 7, 3) := by decide +kernel
theorem dX8_isSo_76 : decode cX8_isSo 76 = .ok (.iconst 1, 1) := by decide +kernel
theorem dX8_isSo_77 : decode cX8_isSo 77 = .ok (.goto 4, 3) := by decide +kernel
theorem dX8_isSo_80 : decode cX8_isSo 80 = .ok (.iconst 0, 1) := by decide +kernel
theorem dX8_isSo_81 : decode cX8_isSo 81 = .ok (.istore_n 2, 1) := by decide +kernel
theorem dX8_isSo_82 : decode cX8_isSo 82 = .ok (.iinc 3 1, 3) := by decide +kernel
theorem dX8_isSo_85 : decode cX8_isSo 85 = .ok (.goto (-81), 3) := by decide +kernel
theorem dX8_isSo_88 : decode cX8_isSo 88 = .ok (.iload_n 2, 1) := by decide +kernel
theorem dX8_isSo_89 : decode cX8_isSo 89 = .ok (.ireturn, 1) := by decide +kernel
theorem dX8_laySizes_0 : decode cX8_laySizes 0 = .ok (.aload_n 0, 1) := by decide +kernel
theorem dX8_laySizes_1 : decode cX8_laySizes 1 = .ok (.iconst 0, 1) := by decide +kernel
theorem dX8_laySizes_2 : decode cX8_laySizes 2 = .ok (.putfield 81, 3) := by decide +kernel
theorem dX8_laySizes_5 : decode cX8_laySizes 5 = .ok (.aload_n 0, 1) := by decide +kernel
theorem dX8_laySizes_6 : decode cX8_laySizes 6 = .ok (.iconst (-1), 1) := by decide +kernel
theorem dX8_laySizes_7 : decode cX8_laySizes 7 = .ok (.putfield 84, 3) := by decide +kernel
theorem dX8_laySizes_10 : decode cX8_laySizes 10 = .ok (.aload_n 0, 1) := by decide +kernel
theorem dX8_laySizes_11 : decode cX8_laySizes 11 = .ok (.iconst (-1), 1) := by decide +kernel
theorem dX8_laySizes_12 : decode cX8_laySizes 12 = .ok (.putfield 87, 3) := by decide +kernel
theorem dX8_laySizes_15 : decode cX8_laySizes 15 = .ok (.iconst 0, 1) := by decide +kernel
theorem dX8_laySizes_16 : decode cX8_laySizes 16 = .ok (.istore_n 1, 1) := by decide +kernel
theorem dX8_laySizes_17 : decode cX8_laySizes 17 = .ok (.iload_n 1, 1) := by decide +kernel
theorem dX8_laySizes_18 : decode cX8_laySizes 18 = .ok (.sipush 9999, 3) := by decide +kernel
theorem dX8_laySizes_21 : decode cX8_laySizes 21 = .ok (.if_icmp .gt 72, 3) := by decide +kernel
theorem dX8_laySizes_24 : decode cX8_laySizes 24 = .ok (.aload_n 0, 1) := by decide +kernel
theorem dX8_laySizes_25 : decode cX8_laySizes 25 = .ok (.iload_n 1, 1) := by decide +kernel
theorem dX8_laySizes_26 : decode cX8_laySizes 26 = .ok (.invokevirtual 90, 3) := by decide +kernel
theorem dX8_laySizes_29 : decode cX8_laySizes 29 = .ok (.istore_n 2, 1) := by decide +kernel
theorem dX8_laySizes_30 : decode cX8_laySizes 30 = .ok (.aload_n 0, 1) := by decide +kernel
theorem dX8_laySizes_31 : decode cX8_laySizes 31 = .ok (.iload_n 2, 1) := by decide +kernel
theorem dX8_laySizes_32 : decode cX8_laySizes 32 = .ok (.ifCond .eq 14, 3) := by decide +kernel
theorem dX8_laySizes_35 : decode cX8_laySizes 35 = .ok (.aload_n 0, 1) := by decide +kernel
theorem dX8_laySizes_36 : decode cX8_laySizes 36 = .ok (.getfield 81, 3) := by decide +kernel
theorem dX8_laySizes_39 : decode cX8_laySizes 39 = .ok (.ifCond .ne 7, 3) := by decide +kernel
theorem dX8_laySizes_42 : decode cX8_laySizes 42 = .ok (.iload_n 1, 1) := by decide +kernel
theorem dX8_laySizes_43 : decode cX8_laySizes 43 = .ok (.goto 7, 3) := by decide +kernel
theorem dX8_laySizes_46 : decode cX8_laySizes 46 = .ok (.aload_n 0, 1) := by decide +kernel
theorem dX8_laySizes_47 : decode cX8_laySizes 47 = .ok (.getfield 84, 3) := by decide +kernel
theorem dX8_laySizes_50 : decode cX8_laySizes 50 = .ok (.putfield 84, 3) := by decide +kernel
theorem dX8_laySizes_53 : decode cX8_laySizes 53 = .ok (.aload_n 0, 1) := by decide +kernel
theorem dX8_laySizes_54 : decode cX8_laySizes 54 = .ok (.iload_n 2, 1) := by decide +kernel
theorem dX8_laySizes_55 : decode cX8_laySizes 55 = .ok (.ifCond .eq 7, 3) := by decide +kernel
theorem dX8_laySizes_58 : decode cX8_laySizes 58 = .ok (.iload_n 1, 1) := by decide +kernel
theorem dX8_laySizes_59 : decode cX8_laySizes 59 = .ok (.goto 7, 3) := by decide +kernel
theorem dX8_laySizes_62 : decode cX8_laySizes 62 = .ok (.aload_n 0, 1) := by decide +kernel
theorem dX8_laySizes_63 : decode cX8_laySizes 63 = .ok (.getfield 87, 3) := by decide +kernel
theorem dX8_laySizes_66 : decode cX8_laySizes 66 = .ok (.putfield 87, 3) := by decide +kernel
theorem dX8_laySizes_69 : decode cX8_laySizes 69 = .ok (.aload_n 0, 1) := by decide +kernel
theorem dX8_laySizes_70 : decode cX8_laySizes 70 = .ok (.dup, 1) := by decide +kernel
theorem dX8_laySizes_71 : decode cX8_laySizes 71 = .ok (.getfield 81, 3) := by decide +kernel
theorem dX8_laySizes_74 : decode cX8_laySizes 74 = .ok (.iload_n 2, 1) := by decide +kernel
theorem dX8_laySizes_75 : decode cX8_laySizes 75 = .ok (.ifCond .eq 7, 3) := by decide +kernel
theorem dX8_laySizes_78 : decode cX8_laySizes 78 = .ok (.iconst 1, 1) := by decide +kernel
theorem dX8_laySizes_79 : decode cX8_laySizes 79 = .ok (.goto 4, 3) := by decide +kernel
theorem dX8_laySizes_82 : decode cX8_laySizes 82 = .ok (.iconst 0, 1) := by decide +kernel
theorem dX8_laySizes_83 : decode cX8_laySizes 83 = .ok (.iadd, 1) := by decide +kernel
theorem dX8_laySizes_84 : decode cX8_laySizes 84 = .ok (.putfield 81, 3) := by decide +kernel
theorem dX8_laySizes_87 : decode cX8_laySizes 87 = .ok (.iinc 1 1, 3) := by decide +kernel
theorem dX8_laySizes_90 : decode cX8_laySizes 90 = .ok (.goto (-73), 3) := by decide +kernel
theorem dX8_laySizes_93 : decode cX8_laySizes 93 = .ok (.return_, 1) := by decide +kernel
theorem dX8_fitting_0 : decode cX8_fitting 0 = .ok (.iconst 0, 1) := by decide +kernel
theorem dX8_fitting_1 : decode cX8_fitting 1 = .ok (.istore_n 2, 1) := by decide +kernel
theorem dX8_fitting_2 : decode cX8_fitting 2 = .ok (.aload_n 0, 1) := by decide +kernel
theorem dX8_fitting_3 : decode cX8_fitting 3 = .ok (.iload_n 1, 1) := by decide +kernel
theorem dX8_fitting_4 : decode cX8_fitting 4 = .ok (.invokevirtual 56, 3) := by decide +kernel
theorem dX8_fitting_7 : decode cX8_fitting 7 = .ok (.istore_n 3, 1) := by decide +kernel
theorem dX8_fitting_8 : decode cX8_fitting 8 = .ok (.iload_n 3, 1) := by decide +kernel
theorem dX8_fitting_9 : decode cX8_fitting 9 = .ok (.aload_n 0, 1) := by decide +kernel
theorem dX8_fitting_10 : decode cX8_fitting 10 = .ok (.iload_n 1, 1) := by decide +kernel
theorem dX8_fitting_11 : decode cX8_fitting 11 = .ok (.invokevirtual 60, 3) := by decide +kernel
theorem dX8_fitting_14 : decode cX8_fitting 14 = .ok (.if_icmp .gt 32, 3) := by decide +kernel
theorem dX8_fitting_17 : decode cX8_fitting 17 = .ok (.iload_n 3, 1) := by decide +kernel
theorem dX8_fitting_18 : decode cX8_fitting 18 = .ok (.sipush 9999, 3) := by decide +kernel
theorem dX8_fitting_21 : decode cX8_fitting 21 = .ok (.if_icmp .gt 25, 3) := by decide +kernel
theorem dX8_fitting_24 : decode cX8_fitting 24 = .ok (.iload_n 2, 1) := by decide +kernel
theorem dX8_fitting_25 : decode cX8_fitting 25 = .ok (.aload_n 0, 1) := by decide +kernel
theorem dX8_fitting_26 : decode cX8_fitting 26 = .ok (.iload_n 3, 1) := by decide +kernel
theorem dX8_fitting_27 : decode cX8_fitting 27 = .ok (.invokevirtual 90, 3) := by decide +kernel
theorem dX8_fitting_30 : decode cX8_fitting 30 = .ok (.ifCond .eq 7, 3) := by decide +kernel
theorem dX8_fitting_33 : decode cX8_fitting 33 = .ok (.iconst 1, 1) := by decide +kernel
theorem dX8_fitting_34 : decode cX8_fitting 34 = .ok (.goto 4, 3) := by decide +kernel
theorem dX8_fitting_37 : decode cX8_fitting 37 = .ok (.iconst 0, 1) := by decide +kernel
theorem dX8_fitting_38 : decode cX8_fitting 38 = .ok (.iadd, 1) := by decide +kernel
theorem dX8_fitting_39 : decode cX8_fitting 39 = .ok (.istore_n 2, 1) := by decide +kernel
theorem dX8_fitting_40 : decode cX8_fitting 40 = .ok (.iinc 3 1, 3) := by decide +kernel
theorem dX8_fitting_43 : decode cX8_fitting 43 = .ok (.goto (-35), 3) := by decide +kernel
theorem dX8_fitting_46 : decode cX8_fitting 46 = .ok (.iload_n 2, 1) := by decide +kernel
theorem dX8_fitting_47 : decode cX8_fitting 47 = .ok (.ireturn, 1) := by decide +kernel
theorem dX8_tryNext_0 : decode cX8_tryNext 0 = .ok (.aload_n 0, 1) := by decide +kernel
theorem dX8_tryNext_1 : decode cX8_tryNext 1 = .ok (.invokevirtual 93, 3) := by decide +kernel
theorem dX8_tryNext_4 : decode cX8_tryNext 4 = .ok (.iconst (-1), 1) := by decide +kernel
theorem dX8_tryNext_5 : decode cX8_tryNext 5 = .ok (.istore_n 1, 1) := by decide +kernel
theorem dX8_tryNext_6 : decode cX8_tryNext 6 = .ok (.aload_n 0, 1) := by decide +kernel
theorem dX8_tryNext_7 : decode cX8_tryNext 7 = .ok (.getfield 81, 3) := by decide +kernel
theorem dX8_tryNext_10 : decode cX8_tryNext 10 = .ok (.istore_n 2, 1) := by decide +kernel
theorem dX8_tryNext_11 : decode cX8_tryNext 11 = .ok (.iconst 0, 1) := by decide +kernel
theorem dX8_tryNext_12 : decode cX8_tryNext 12 = .ok (.istore_n 3, 1) := by decide +kernel
theorem dX8_tryNext_13 : decode cX8_tryNext 13 = .ok (.iload_n 3, 1) := by decide +kernel
theorem dX8_tryNext_14 : decode cX8_tryNext 14 = .ok (.aload_n 0, 1) := by decide +kernel
theorem dX8_tryNext_15 : decode cX8_tryNext 15 = .ok (.getfield 7, 3) := by decide +kernel
theorem dX8_tryNext_18 : decode cX8_tryNext 18 = .ok (.bipush 8, 2) := by decide +kernel
theorem dX8_tryNext_20 : decode cX8_tryNext 20 = .ok (.iaload, 1) := by decide +kernel
theorem dX8_tryNext_21 : decode cX8_tryNext 21 = .ok (.if_icmp .ge 67, 3) := by decide +kernel
theorem dX8_tryNext_24 : decode cX8_tryNext 24 = .ok (.aload_n 0, 1) := by decide +kernel
theorem dX8_tryNext_25 : decode cX8_tryNext 25 = .ok (.iload_n 3, 1) := by decide +kernel
theorem dX8_tryNext_26 : decode cX8_tryNext 26 = .ok (.invokevirtual 96, 3) := by decide +kernel
theorem dX8_tryNext_29 : decode cX8_tryNext 29 = .ok (.istore 4, 2) := by decide +kernel
theorem dX8_tryNext_31 : decode cX8_tryNext 31 = .ok (.iload 4, 2) := by decide +kernel
theorem dX8_tryNext_33 : decode cX8_tryNext 33 = .ok (.aload_n 0, 1) := by decide +kernel
theorem dX8_tryNext_34 : decode cX8_tryNext 34 = .ok (.getfield 81, 3) := by decide +kernel
theorem dX8_tryNext_37 : decode cX8_tryNext 37 = .ok (.iload 4, 2) := by decide +kernel
theorem dX8_tryNext_39 : decode cX8_tryNext 39 = .ok (.isub, 1) := by decide +kernel
theorem dX8_tryNext_40 : decode cX8_tryNext 40 = .ok (.if_icmp .le 8, 3) := by decide +kernel
theorem dX8_tryNext_43 : decode cX8_tryNext 43 = .ok (.iload 4, 2) := by decide +kernel
theorem dX8_tryNext_45 : decode cX8_tryNext 45 = .ok (.goto 10, 3) := by decide +kernel
theorem dX8_tryNext_48 : decode cX8_tryNext 48 = .ok (.aload_n 0, 1) := by decide +kernel
theorem dX8_tryNext_49 : decode cX8_tryNext 49 = .ok (.getfield 81, 3) := by decide +kernel
theorem dX8_tryNext_52 : decode cX8_tryNext 52 = .ok (.iload 4, 2) := by decide +kernel
theorem dX8_tryNext_54 : decode cX8_tryNext 54 = .ok (.isub, 1) := by decide +kernel
theorem dX8_tryNext_55 : decode cX8_tryNext 55 = .ok (.istore 5, 2) := by decide +kernel
theorem dX8_tryNext_57 : decode cX8_tryNext 57 = .ok (.iload 5, 2) := by decide +kernel
theorem dX8_tryNext_59 : decode cX8_tryNext 59 = .ok (.iload_n 2, 1) := by decide +kernel
theorem dX8_tryNext_60 : decode cX8_tryNext 60 = .ok (.if_icmp .ge 7, 3) := by decide +kernel
theorem dX8_tryNext_63 : decode cX8_tryNext 63 = .ok (.iload_n 3, 1) := by decide +kernel
theorem dX8_tryNext_64 : decode cX8_tryNext 64 = .ok (.goto 4, 3) := by decide +kernel
theorem dX8_tryNext_67 : decode cX8_tryNext 67 = .ok (.iload_n 1, 1) := by decide +kernel
theorem dX8_tryNext_68 : decode cX8_tryNext 68 = .ok (.istore_n 1, 1) := by decide +kernel
theorem dX8_tryNext_69 : decode cX8_tryNext 69 = .ok (.iload 5, 2) := by decide +kernel
theorem dX8_tryNext_71 : decode cX8_tryNext 71 = .ok (.iload_n 2, 1) := by decide +kernel
theorem dX8_tryNext_72 : decode cX8_tryNext 72 = .ok (.if_icmp .ge 8, 3) := by decide +kernel
theorem dX8_tryNext_75 : decode cX8_tryNext 75 = .ok (.iload 5, 2) := by decide +kernel
theorem dX8_tryNext_77 : decode cX8_tryNext 77 = .ok (.goto 4, 3) := by decide +kernel
theorem dX8_tryNext_80 : decode cX8_tryNext 80 = .ok (.iload_n 2, 1) := by decide +kernel
theorem dX8_tryNext_81 : decode cX8_tryNext 81 = .ok (.istore_n 2, 1) := by decide +kernel
theorem dX8_tryNext_82 : decode cX8_tryNext 82 = .ok (.iinc 3 1, 3) := by decide +kernel
theorem dX8_tryNext_85 : decode cX8_tryNext 85 = .ok (.goto (-72), 3) := by decide +kernel
theorem dX8_tryNext_88 : decode cX8_tryNext 88 = .ok (.iload_n 1, 1) := by decide +kernel
theorem dX8_tryNext_89 : decode cX8_tryNext 89 = .ok (.ireturn, 1) := by decide +kernel
theorem dX8_sizesTell_0 : decode cX8_sizesTell 0 = .ok (.aload_n 0, 1) := by decide +kernel
theorem dX8_sizesTell_1 : decode cX8_sizesTell 1 = .ok (.invokevirtual 93, 3) := by decide +kernel
theorem dX8_sizesTell_4 : decode cX8_sizesTell 4 = .ok (.iload_n 1, 1) := by decide +kernel
theorem dX8_sizesTell_5 : decode cX8_sizesTell 5 = .ok (.ifCond .ne 10, 3) := by decide +kernel
theorem dX8_sizesTell_8 : decode cX8_sizesTell 8 = .ok (.aload_n 0, 1) := by decide +kernel
theorem dX8_sizesTell_9 : decode cX8_sizesTell 9 = .ok (.getfield 81, 3) := by decide +kernel
theorem dX8_sizesTell_12 : decode cX8_sizesTell 12 = .ok (.goto 19, 3) := by decide +kernel
theorem dX8_sizesTell_15 : decode cX8_sizesTell 15 = .ok (.iload_n 1, 1) := by decide +kernel
theorem dX8_sizesTell_16 : decode cX8_sizesTell 16 = .ok (.iconst 1, 1) := by decide +kernel
theorem dX8_sizesTell_17 : decode cX8_sizesTell 17 = .ok (.if_icmp .ne 10, 3) := by decide +kernel
theorem dX8_sizesTell_20 : decode cX8_sizesTell 20 = .ok (.aload_n 0, 1) := by decide +kernel
theorem dX8_sizesTell_21 : decode cX8_sizesTell 21 = .ok (.getfield 84, 3) := by decide +kernel
theorem dX8_sizesTell_24 : decode cX8_sizesTell 24 = .ok (.goto 7, 3) := by decide +kernel
theorem dX8_sizesTell_27 : decode cX8_sizesTell 27 = .ok (.aload_n 0, 1) := by decide +kernel
theorem dX8_sizesTell_28 : decode cX8_sizesTell 28 = .ok (.getfield 87, 3) := by decide +kernel
theorem dX8_sizesTell_31 : decode cX8_sizesTell 31 = .ok (.ireturn, 1) := by decide +kernel
theorem dX8_told_0 : decode cX8_told 0 = .ok (.iload_n 1, 1) := by decide +kernel
theorem dX8_told_1 : decode cX8_told 1 = .ok (.tableswitch 189 0 15 #[79, 87, 95, 103, 108, 121, 134, 140, 146, 151, 156, 161, 167, 173, 179, 184], 79) := by decide +kernel
theorem dX8_told_80 : decode cX8_told 80 = .ok (.aload_n 0, 1) := by decide +kernel
theorem dX8_told_81 : decode cX8_told 81 = .ok (.getfield 7, 3) := by decide +kernel
theorem dX8_told_84 : decode cX8_told 84 = .ok (.bipush 8, 2) := by decide +kernel
theorem dX8_told_86 : decode cX8_told 86 = .ok (.iaload, 1) := by decide +kernel
theorem dX8_told_87 : decode cX8_told 87 = .ok (.ireturn, 1) := by decide +kernel
theorem dX8_told_88 : decode cX8_told 88 = .ok (.aload_n 0, 1) := by decide +kernel
theorem dX8_told_89 : decode cX8_told 89 = .ok (.getfield 7, 3) := by decide +kernel
theorem dX8_told_92 : decode cX8_told 92 = .ok (.bipush 57, 2) := by decide +kernel
theorem dX8_told_94 : decode cX8_told 94 = .ok (.iaload, 1) := by decide +kernel
theorem dX8_told_95 : decode cX8_told 95 = .ok (.ireturn, 1) := by decide +kernel
theorem dX8_told_96 : decode cX8_told 96 = .ok (.aload_n 0, 1) := by decide +kernel
theorem dX8_told_97 : decode cX8_told 97 = .ok (.getfield 7, 3) := by decide +kernel
theorem dX8_told_100 : decode cX8_told 100 = .ok (.bipush 82, 2) := by decide +kernel
theorem dX8_told_102 : decode cX8_told 102 = .ok (.iaload, 1) := by decide +kernel
theorem dX8_told_103 : decode cX8_told 103 = .ok (.ireturn, 1) := by decide +kernel
theorem dX8_told_104 : decode cX8_told 104 = .ok (.aload_n 0, 1) := by decide +kernel
theorem dX8_told_105 : decode cX8_told 105 = .ok (.invokevirtual 70, 3) := by decide +kernel
theorem dX8_told_108 : decode cX8_told 108 = .ok (.ireturn, 1) := by decide +kernel
theorem dX8_told_109 : decode cX8_told 109 = .ok (.aload_n 0, 1) := by decide +kernel
theorem dX8_told_110 : decode cX8_told 110 = .ok (.getfield 7, 3) := by decide +kernel
theorem dX8_told_113 : decode cX8_told 113 = .ok (.bipush 8, 2) := by decide +kernel
theorem dX8_told_115 : decode cX8_told 115 = .ok (.iaload, 1) := by decide +kernel
theorem dX8_told_116 : decode cX8_told 116 = .ok (.aload_n 0, 1) := by decide +kernel
theorem dX8_told_117 : decode cX8_told 117 = .ok (.invokevirtual 70, 3) := by decide +kernel
theorem dX8_told_120 : decode cX8_told 120 = .ok (.isub, 1) := by decide +kernel
theorem dX8_told_121 : decode cX8_told 121 = .ok (.ireturn, 1) := by decide +kernel
theorem dX8_told_122 : decode cX8_told 122 = .ok (.aload_n 0, 1) := by decide +kernel
theorem dX8_told_123 : decode cX8_told 123 = .ok (.getfield 7, 3) := by decide +kernel
theorem dX8_told_126 : decode cX8_told 126 = .ok (.bipush 57, 2) := by decide +kernel
theorem dX8_told_128 : decode cX8_told 128 = .ok (.iaload, 1) := by decide +kernel
theorem dX8_told_129 : decode cX8_told 129 = .ok (.aload_n 0, 1) := by decide +kernel
theorem dX8_told_130 : decode cX8_told 130 = .ok (.invokevirtual 70, 3) := by decide +kernel
theorem dX8_told_133 : decode cX8_told 133 = .ok (.isub, 1) := by decide +kernel
theorem dX8_told_134 : decode cX8_told 134 = .ok (.ireturn, 1) := by decide +kernel
theorem dX8_told_135 : decode cX8_told 135 = .ok (.aload_n 0, 1) := by decide +kernel
theorem dX8_told_136 : decode cX8_told 136 = .ok (.iconst 0, 1) := by decide +kernel
theorem dX8_told_137 : decode cX8_told 137 = .ok (.invokevirtual 99, 3) := by decide +kernel
theorem dX8_told_140 : decode cX8_told 140 = .ok (.ireturn, 1) := by decide +kernel
theorem dX8_told_141 : decode cX8_told 141 = .ok (.aload_n 0, 1) := by decide +kernel
theorem dX8_told_142 : decode cX8_told 142 = .ok (.iconst 1, 1) := by decide +kernel
theorem dX8_told_143 : decode cX8_told 143 = .ok (.invokevirtual 99, 3) := by decide +kernel
theorem dX8_told_146 : decode cX8_told 146 = .ok (.ireturn, 1) := by decide +kernel
theorem dX8_told_147 : decode cX8_told 147 = .ok (.aload_n 0, 1) := by decide +kernel
theorem dX8_told_148 : decode cX8_told 148 = .ok (.invokevirtual 103, 3) := by decide +kernel
theorem dX8_told_151 : decode cX8_told 151 = .ok (.ireturn, 1) := by decide +kernel
theorem dX8_told_152 : decode cX8_told 152 = .ok (.aload_n 0, 1) := by decide +kernel
theorem dX8_told_153 : decode cX8_told 153 = .ok (.invokevirtual 106, 3) := by decide +kernel
theorem dX8_told_156 : decode cX8_told 156 = .ok (.ireturn, 1) := by decide +kernel
theorem dX8_told_157 : decode cX8_told 157 = .ok (.aload_n 0, 1) := by decide +kernel
theorem dX8_told_158 : decode cX8_told 158 = .ok (.getfield 78, 3) := by decide +kernel
theorem dX8_told_161 : decode cX8_told 161 = .ok (.ireturn, 1) := by decide +kernel
theorem dX8_told_162 : decode cX8_told 162 = .ok (.aload_n 0, 1) := by decide +kernel
theorem dX8_told_163 : decode cX8_told 163 = .ok (.iconst 0, 1) := by decide +kernel
theorem dX8_told_164 : decode cX8_told 164 = .ok (.invokevirtual 109, 3) := by decide +kernel
theorem dX8_told_167 : decode cX8_told 167 = .ok (.ireturn, 1) := by decide +kernel
theorem dX8_told_168 : decode cX8_told 168 = .ok (.aload_n 0, 1) := by decide +kernel
theorem dX8_told_169 : decode cX8_told 169 = .ok (.iconst 1, 1) := by decide +kernel
theorem dX8_told_170 : decode cX8_told 170 = .ok (.invokevirtual 109, 3) := by decide +kernel
theorem dX8_told_173 : decode cX8_told 173 = .ok (.ireturn, 1) := by decide +kernel
theorem dX8_told_174 : decode cX8_told 174 = .ok (.aload_n 0, 1) := by decide +kernel
theorem dX8_told_175 : decode cX8_told 175 = .ok (.iconst 2, 1) := by decide +kernel
theorem dX8_told_176 : decode cX8_told 176 = .ok (.invokevirtual 109, 3) := by decide +kernel
theorem dX8_told_179 : decode cX8_told 179 = .ok (.ireturn, 1) := by decide +kernel
theorem dX8_told_180 : decode cX8_told 180 = .ok (.aload_n 0, 1) := by decide +kernel
theorem dX8_told_181 : decode cX8_told 181 = .ok (.invokevirtual 112, 3) := by decide +kernel
theorem dX8_told_184 : decode cX8_told 184 = .ok (.ireturn, 1) := by decide +kernel
theorem dX8_told_185 : decode cX8_told 185 = .ok (.aload_n 0, 1) := by decide +kernel
theorem dX8_told_186 : decode cX8_told 186 = .ok (.getfield 115, 3) := by decide +kernel
theorem dX8_told_189 : decode cX8_told 189 = .ok (.ireturn, 1) := by decide +kernel
theorem dX8_told_190 : decode cX8_told 190 = .ok (.ldc 118, 2) := by decide +kernel
theorem dX8_told_192 : decode cX8_told 192 = .ok (.ireturn, 1) := by decide +kernel
theorem dX8_sortOf_0 : decode cX8_sortOf 0 = .ok (.iconst 0, 1) := by decide +kernel
theorem dX8_sortOf_1 : decode cX8_sortOf 1 = .ok (.istore_n 3, 1) := by decide +kernel
theorem dX8_sortOf_2 : decode cX8_sortOf 2 = .ok (.iload_n 3, 1) := by decide +kernel
theorem dX8_sortOf_3 : decode cX8_sortOf 3 = .ok (.aload_n 0, 1) := by decide +kernel
theorem dX8_sortOf_4 : decode cX8_sortOf 4 = .ok (.getfield 7, 3) := by decide +kernel
theorem dX8_sortOf_7 : decode cX8_sortOf 7 = .ok (.bipush 82, 2) := by decide +kernel
theorem dX8_sortOf_9 : decode cX8_sortOf 9 = .ok (.iaload, 1) := by decide +kernel
theorem dX8_sortOf_10 : decode cX8_sortOf 10 = .ok (.if_icmp .ge 38, 3) := by decide +kernel
theorem dX8_sortOf_13 : decode cX8_sortOf 13 = .ok (.aload_n 0, 1) := by decide +kernel
theorem dX8_sortOf_14 : decode cX8_sortOf 14 = .ok (.getfield 7, 3) := by decide +kernel
theorem dX8_sortOf_17 : decode cX8_sortOf 17 = .ok (.bipush 83, 2) := by decide +kernel
theorem dX8_sortOf_19 : decode cX8_sortOf 19 = .ok (.iload_n 3, 1) := by decide +kernel
theorem dX8_sortOf_20 : decode cX8_sortOf 20 = .ok (.iadd, 1) := by decide +kernel
theorem dX8_sortOf_21 : decode cX8_sortOf 21 = .ok (.iaload, 1) := by decide +kernel
theorem dX8_sortOf_22 : decode cX8_sortOf 22 = .ok (.iload_n 1, 1) := by decide +kernel
theorem dX8_sortOf_23 : decode cX8_sortOf 23 = .ok (.if_icmp .ne 19, 3) := by decide +kernel
theorem dX8_sortOf_26 : decode cX8_sortOf 26 = .ok (.aload_n 0, 1) := by decide +kernel
theorem dX8_sortOf_27 : decode cX8_sortOf 27 = .ok (.getfield 7, 3) := by decide +kernel
theorem dX8_sortOf_30 : decode cX8_sortOf 30 = .ok (.sipush 131, 3) := by decide +kernel
theorem dX8_sortOf_33 : decode cX8_sortOf 33 = .ok (.iload_n 3, 1) := by decide +kernel
theorem dX8_sortOf_34 : decode cX8_sortOf 34 = .ok (.iadd, 1) := by decide +kernel
theorem dX8_sortOf_35 : decode cX8_sortOf 35 = .ok (.iaload, 1) := by decide +kernel
theorem dX8_sortOf_36 : decode cX8_sortOf 36 = .ok (.iload_n 2, 1) := by decide +kernel
theorem dX8_sortOf_37 : decode cX8_sortOf 37 = .ok (.if_icmp .ne 5, 3) := by decide +kernel
theorem dX8_sortOf_40 : decode cX8_sortOf 40 = .ok (.iload_n 3, 1) := by decide +kernel
theorem dX8_sortOf_41 : decode cX8_sortOf 41 = .ok (.ireturn, 1) := by decide +kernel
theorem dX8_sortOf_42 : decode cX8_sortOf 42 = .ok (.iinc 3 1, 3) := by decide +kernel
theorem dX8_sortOf_45 : decode cX8_sortOf 45 = .ok (.goto (-43), 3) := by decide +kernel
theorem dX8_sortOf_48 : decode cX8_sortOf 48 = .ok (.iconst (-1), 1) := by decide +kernel
theorem dX8_sortOf_49 : decode cX8_sortOf 49 = .ok (.ireturn, 1) := by decide +kernel
theorem dX8_shaftTells_0 : decode cX8_shaftTells 0 = .ok (.aload_n 0, 1) := by decide +kernel
theorem dX8_shaftTells_1 : decode cX8_shaftTells 1 = .ok (.invokevirtual 70, 3) := by decide +kernel
theorem dX8_shaftTells_4 : decode cX8_shaftTells 4 = .ok (.istore_n 3, 1) := by decide +kernel
theorem dX8_shaftTells_5 : decode cX8_shaftTells 5 = .ok (.iload_n 2, 1) := by decide +kernel
theorem dX8_shaftTells_6 : decode cX8_shaftTells 6 = .ok (.tableswitch 108 0 5 #[38, 48, 58, 73, 79, 85], 38) := by decide +kernel
theorem dX8_shaftTells_44 : decode cX8_shaftTells 44 = .ok (.aload_n 0, 1) := by decide +kernel
theorem dX8_shaftTells_45 : decode cX8_shaftTells 45 = .ok (.getfield 7, 3) := by decide +kernel
theorem dX8_shaftTells_48 : decode cX8_shaftTells 48 = .ok (.bipush 9, 2) := by decide +kernel
theorem dX8_shaftTells_50 : decode cX8_shaftTells 50 = .ok (.iload_n 1, 1) := by decide +kernel
theorem dX8_shaftTells_51 : decode cX8_shaftTells 51 = .ok (.iadd, 1) := by decide +kernel
theorem dX8_shaftTells_52 : decode cX8_shaftTells 52 = .ok (.iaload, 1) := by decide +kernel
theorem dX8_shaftTells_53 : decode cX8_shaftTells 53 = .ok (.ireturn, 1) := by decide +kernel
theorem dX8_shaftTells_54 : decode cX8_shaftTells 54 = .ok (.aload_n 0, 1) := by decide +kernel
theorem dX8_shaftTells_55 : decode cX8_shaftTells 55 = .ok (.getfield 7, 3) := by decide +kernel
theorem dX8_shaftTells_58 : decode cX8_shaftTells 58 = .ok (.bipush 33, 2) := by decide +kernel
theorem dX8_shaftTells_60 : decode cX8_shaftTells 60 = .ok (.iload_n 1, 1) := by decide +kernel
theorem dX8_shaftTells_61 : decode cX8_shaftTells 61 = .ok (.iadd, 1) := by decide +kernel
theorem dX8_shaftTells_62 : decode cX8_shaftTells 62 = .ok (.iaload, 1) := by decide +kernel
theorem dX8_shaftTells_63 : decode cX8_shaftTells 63 = .ok (.ireturn, 1) := by decide +kernel
theorem dX8_shaftTells_64 : decode cX8_shaftTells 64 = .ok (.iload_n 3, 1) := by decide +kernel
theorem dX8_shaftTells_65 : decode cX8_shaftTells 65 = .ok (.ifCond .le 12, 3) := by decide +kernel
theorem dX8_shaftTells_68 : decode cX8_shaftTells 68 = .ok (.aload_n 0, 1) := by decide +kernel
theorem dX8_shaftTells_69 : decode cX8_shaftTells 69 = .ok (.getfield 20, 3) := by decide +kernel
theorem dX8_shaftTells_72 : decode cX8_shaftTells 72 = .ok (.iload_n 1, 1) := by decide +kernel
theorem dX8_shaftTells_73 : decode cX8_shaftTells 73 = .ok (.iaload, 1) := by decide +kernel
theorem dX8_shaftTells_74 : decode cX8_shaftTells 74 = .ok (.goto 4, 3) := by decide +kernel
theorem dX8_shaftTells_77 : decode cX8_shaftTells 77 = .ok (.iconst (-1), 1) := by decide +kernel
theorem dX8_shaftTells_78 : decode cX8_shaftTells 78 = .ok (.ireturn, 1) := by decide +kernel
theorem dX8_shaftTells_79 : decode cX8_shaftTells 79 = .ok (.aload_n 0, 1) := by decide +kernel
theorem dX8_shaftTells_80 : decode cX8_shaftTells 80 = .ok (.iload_n 1, 1) := by decide +kernel
theorem dX8_shaftTells_81 : decode cX8_shaftTells 81 = .ok (.invokevirtual 56, 3) := by decide +kernel
theorem dX8_shaftTells_84 : decode cX8_shaftTells 84 = .ok (.ireturn, 1) := by decide +kernel
theorem dX8_shaftTells_85 : decode cX8_shaftTells 85 = .ok (.aload_n 0, 1) := by decide +kernel
theorem dX8_shaftTells_86 : decode cX8_shaftTells 86 = .ok (.iload_n 1, 1) := by decide +kernel
theorem dX8_shaftTells_87 : decode cX8_shaftTells 87 = .ok (.invokevirtual 60, 3) := by decide +kernel
theorem dX8_shaftTells_90 : decode cX8_shaftTells 90 = .ok (.ireturn, 1) := by decide +kernel
theorem dX8_shaftTells_91 : decode cX8_shaftTells 91 = .ok (.aload_n 0, 1) := by decide +kernel
theorem dX8_shaftTells_92 : decode cX8_shaftTells 92 = .ok (.aload_n 0, 1) := by decide +kernel
theorem dX8_shaftTells_93 : decode cX8_shaftTells 93 = .ok (.getfield 7, 3) := by decide +kernel
theorem dX8_shaftTells_96 : decode cX8_shaftTells 96 = .ok (.bipush 9, 2) := by decide +kernel
theorem dX8_shaftTells_98 : decode cX8_shaftTells 98 = .ok (.iload_n 1, 1) := by decide +kernel
theorem dX8_shaftTells_99 : decode cX8_shaftTells 99 = .ok (.iadd, 1) := by decide +kernel
theorem dX8_shaftTells_100 : decode cX8_shaftTells 100 = .ok (.iaload, 1) := by decide +kernel
theorem dX8_shaftTells_101 : decode cX8_shaftTells 101 = .ok (.aload_n 0, 1) := by decide +kernel
theorem dX8_shaftTells_102 : decode cX8_shaftTells 102 = .ok (.getfield 7, 3) := by decide +kernel
theorem dX8_shaftTells_105 : decode cX8_shaftTells 105 = .ok (.bipush 33, 2) := by decide +kernel
theorem dX8_shaftTells_107 : decode cX8_shaftTells 107 = .ok (.iload_n 1, 1) := by decide +kernel
theorem dX8_shaftTells_108 : decode cX8_shaftTells 108 = .ok (.iadd, 1) := by decide +kernel
theorem dX8_shaftTells_109 : decode cX8_shaftTells 109 = .ok (.iaload, 1) := by decide +kernel
theorem dX8_shaftTells_110 : decode cX8_shaftTells 110 = .ok (.invokevirtual 119, 3) := by decide +kernel
theorem dX8_shaftTells_113 : decode cX8_shaftTells 113 = .ok (.ireturn, 1) := by decide +kernel
theorem dX8_shaftTells_114 : decode cX8_shaftTells 114 = .ok (.ldc 118, 2) := by decide +kernel
theorem dX8_shaftTells_116 : decode cX8_shaftTells 116 = .ok (.ireturn, 1) := by decide +kernel
theorem dX8_shaftAt_0 : decode cX8_shaftAt 0 = .ok (.aload_n 0, 1) := by decide +kernel
theorem dX8_shaftAt_1 : decode cX8_shaftAt 1 = .ok (.iload_n 1, 1) := by decide +kernel
theorem dX8_shaftAt_2 : decode cX8_shaftAt 2 = .ok (.invokevirtual 122, 3) := by decide +kernel
theorem dX8_shaftAt_5 : decode cX8_shaftAt 5 = .ok (.ifCond .eq 12, 3) := by decide +kernel
theorem dX8_shaftAt_8 : decode cX8_shaftAt 8 = .ok (.aload_n 0, 1) := by decide +kernel
theorem dX8_shaftAt_9 : decode cX8_shaftAt 9 = .ok (.iload_n 1, 1) := by decide +kernel
theorem dX8_shaftAt_10 : decode cX8_shaftAt 10 = .ok (.iload_n 2, 1) := by decide +kernel
theorem dX8_shaftAt_11 : decode cX8_shaftAt 11 = .ok (.invokevirtual 125, 3) := by decide +kernel
theorem dX8_shaftAt_14 : decode cX8_shaftAt 14 = .ok (.goto 5, 3) := by decide +kernel
theorem dX8_shaftAt_17 : decode cX8_shaftAt 17 = .ok (.ldc 128, 2) := by decide +kernel
theorem dX8_shaftAt_19 : decode cX8_shaftAt 19 = .ok (.ireturn, 1) := by decide +kernel
theorem dX8_fitsMany_0 : decode cX8_fitsMany 0 = .ok (.iconst 0, 1) := by decide +kernel
theorem dX8_fitsMany_1 : decode cX8_fitsMany 1 = .ok (.istore_n 2, 1) := by decide +kernel
theorem dX8_fitsMany_2 : decode cX8_fitsMany 2 = .ok (.iconst 0, 1) := by decide +kernel
theorem dX8_fitsMany_3 : decode cX8_fitsMany 3 = .ok (.istore_n 3, 1) := by decide +kernel
theorem dX8_fitsMany_4 : decode cX8_fitsMany 4 = .ok (.iload_n 3, 1) := by decide +kernel
theorem dX8_fitsMany_5 : decode cX8_fitsMany 5 = .ok (.aload_n 0, 1) := by decide +kernel
theorem dX8_fitsMany_6 : decode cX8_fitsMany 6 = .ok (.getfield 7, 3) := by decide +kernel
theorem dX8_fitsMany_9 : decode cX8_fitsMany 9 = .ok (.bipush 8, 2) := by decide +kernel
theorem dX8_fitsMany_11 : decode cX8_fitsMany 11 = .ok (.iaload, 1) := by decide +kernel
theorem dX8_fitsMany_12 : decode cX8_fitsMany 12 = .ok (.if_icmp .ge 26, 3) := by decide +kernel
theorem dX8_fitsMany_15 : decode cX8_fitsMany 15 = .ok (.iload_n 2, 1) := by decide +kernel
theorem dX8_fitsMany_16 : decode cX8_fitsMany 16 = .ok (.aload_n 0, 1) := by decide +kernel
theorem dX8_fitsMany_17 : decode cX8_fitsMany 17 = .ok (.iload_n 3, 1) := by decide +kernel
theorem dX8_fitsMany_18 : decode cX8_fitsMany 18 = .ok (.iload_n 1, 1) := by decide +kernel
theorem dX8_fitsMany_19 : decode cX8_fitsMany 19 = .ok (.invokevirtual 129, 3) := by decide +kernel
theorem dX8_fitsMany_22 : decode cX8_fitsMany 22 = .ok (.ifCond .eq 7, 3) := by decide +kernel
theorem dX8_fitsMany_25 : decode cX8_fitsMany 25 = .ok (.iconst 1, 1) := by decide +kernel
theorem dX8_fitsMany_26 : decode cX8_fitsMany 26 = .ok (.goto 4, 3) := by decide +kernel
theorem dX8_fitsMany_29 : decode cX8_fitsMany 29 = .ok (.iconst 0, 1) := by decide +kernel
theorem dX8_fitsMany_30 : decode cX8_fitsMany 30 = .ok (.iadd, 1) := by decide +kernel
theorem dX8_fitsMany_31 : decode cX8_fitsMany 31 = .ok (.istore_n 2, 1) := by decide +kernel
theorem dX8_fitsMany_32 : decode cX8_fitsMany 32 = .ok (.iinc 3 1, 3) := by decide +kernel
theorem dX8_fitsMany_35 : decode cX8_fitsMany 35 = .ok (.goto (-31), 3) := by decide +kernel
theorem dX8_fitsMany_38 : decode cX8_fitsMany 38 = .ok (.iload_n 2, 1) := by decide +kernel
theorem dX8_fitsMany_39 : decode cX8_fitsMany 39 = .ok (.ireturn, 1) := by decide +kernel
theorem dX8_boreTells_0 : decode cX8_boreTells 0 = .ok (.aload_n 0, 1) := by decide +kernel
theorem dX8_boreTells_1 : decode cX8_boreTells 1 = .ok (.invokevirtual 70, 3) := by decide +kernel
theorem dX8_boreTells_4 : decode cX8_boreTells 4 = .ok (.istore_n 3, 1) := by decide +kernel
theorem dX8_boreTells_5 : decode cX8_boreTells 5 = .ok (.iload_n 2, 1) := by decide +kernel
theorem dX8_boreTells_6 : decode cX8_boreTells 6 = .ok (.tableswitch 84 0 3 #[30, 40, 55, 69], 30) := by decide +kernel
theorem dX8_boreTells_36 : decode cX8_boreTells 36 = .ok (.aload_n 0, 1) := by decide +kernel
theorem dX8_boreTells_37 : decode cX8_boreTells 37 = .ok (.getfield 7, 3) := by decide +kernel
theorem dX8_boreTells_40 : decode cX8_boreTells 40 = .ok (.bipush 58, 2) := by decide +kernel
theorem dX8_boreTells_42 : decode cX8_boreTells 42 = .ok (.iload_n 1, 1) := by decide +kernel
theorem dX8_boreTells_43 : decode cX8_boreTells 43 = .ok (.iadd, 1) := by decide +kernel
theorem dX8_boreTells_44 : decode cX8_boreTells 44 = .ok (.iaload, 1) := by decide +kernel
theorem dX8_boreTells_45 : decode cX8_boreTells 45 = .ok (.ireturn, 1) := by decide +kernel
theorem dX8_boreTells_46 : decode cX8_boreTells 46 = .ok (.iload_n 3, 1) := by decide +kernel
theorem dX8_boreTells_47 : decode cX8_boreTells 47 = .ok (.ifCond .le 12, 3) := by decide +kernel
theorem dX8_boreTells_50 : decode cX8_boreTells 50 = .ok (.aload_n 0, 1) := by decide +kernel
theorem dX8_boreTells_51 : decode cX8_boreTells 51 = .ok (.getfield 23, 3) := by decide +kernel
theorem dX8_boreTells_54 : decode cX8_boreTells 54 = .ok (.iload_n 1, 1) := by decide +kernel
theorem dX8_boreTells_55 : decode cX8_boreTells 55 = .ok (.iaload, 1) := by decide +kernel
theorem dX8_boreTells_56 : decode cX8_boreTells 56 = .ok (.goto 4, 3) := by decide +kernel
theorem dX8_boreTells_59 : decode cX8_boreTells 59 = .ok (.iconst (-1), 1) := by decide +kernel
theorem dX8_boreTells_60 : decode cX8_boreTells 60 = .ok (.ireturn, 1) := by decide +kernel
theorem dX8_boreTells_61 : decode cX8_boreTells 61 = .ok (.aload_n 0, 1) := by decide +kernel
theorem dX8_boreTells_62 : decode cX8_boreTells 62 = .ok (.aload_n 0, 1) := by decide +kernel
theorem dX8_boreTells_63 : decode cX8_boreTells 63 = .ok (.getfield 7, 3) := by decide +kernel
theorem dX8_boreTells_66 : decode cX8_boreTells 66 = .ok (.bipush 58, 2) := by decide +kernel
theorem dX8_boreTells_68 : decode cX8_boreTells 68 = .ok (.iload_n 1, 1) := by decide +kernel
theorem dX8_boreTells_69 : decode cX8_boreTells 69 = .ok (.iadd, 1) := by decide +kernel
theorem dX8_boreTells_70 : decode cX8_boreTells 70 = .ok (.iaload, 1) := by decide +kernel
theorem dX8_boreTells_71 : decode cX8_boreTells 71 = .ok (.invokevirtual 133, 3) := by decide +kernel
theorem dX8_boreTells_74 : decode cX8_boreTells 74 = .ok (.ireturn, 1) := by decide +kernel
theorem dX8_boreTells_75 : decode cX8_boreTells 75 = .ok (.aload_n 0, 1) := by decide +kernel
theorem dX8_boreTells_76 : decode cX8_boreTells 76 = .ok (.iconst 4, 1) := by decide +kernel
theorem dX8_boreTells_77 : decode cX8_boreTells 77 = .ok (.aload_n 0, 1) := by decide +kernel
theorem dX8_boreTells_78 : decode cX8_boreTells 78 = .ok (.getfield 7, 3) := by decide +kernel
theorem dX8_boreTells_81 : decode cX8_boreTells 81 = .ok (.bipush 58, 2) := by decide +kernel
theorem dX8_boreTells_83 : decode cX8_boreTells 83 = .ok (.iload_n 1, 1) := by decide +kernel
theorem dX8_boreTells_84 : decode cX8_boreTells 84 = .ok (.iadd, 1) := by decide +kernel
theorem dX8_boreTells_85 : decode cX8_boreTells 85 = .ok (.iaload, 1) := by decide +kernel
theorem dX8_boreTells_86 : decode cX8_boreTells 86 = .ok (.invokevirtual 119, 3) := by decide +kernel
theorem dX8_boreTells_89 : decode cX8_boreTells 89 = .ok (.ireturn, 1) := by decide +kernel
theorem dX8_boreTells_90 : decode cX8_boreTells 90 = .ok (.ldc 118, 2) := by decide +kernel
theorem dX8_boreTells_92 : decode cX8_boreTells 92 = .ok (.ireturn, 1) := by decide +kernel
theorem dX8_boreAt_0 : decode cX8_boreAt 0 = .ok (.aload_n 0, 1) := by decide +kernel
theorem dX8_boreAt_1 : decode cX8_boreAt 1 = .ok (.iload_n 1, 1) := by decide +kernel
theorem dX8_boreAt_2 : decode cX8_boreAt 2 = .ok (.invokevirtual 136, 3) := by decide +kernel
theorem dX8_boreAt_5 : decode cX8_boreAt 5 = .ok (.ifCond .eq 12, 3) := by decide +kernel
theorem dX8_boreAt_8 : decode cX8_boreAt 8 = .ok (.aload_n 0, 1) := by decide +kernel
theorem dX8_boreAt_9 : decode cX8_boreAt 9 = .ok (.iload_n 1, 1) := by decide +kernel
theorem dX8_boreAt_10 : decode cX8_boreAt 10 = .ok (.iload_n 2, 1) := by decide +kernel
theorem dX8_boreAt_11 : decode cX8_boreAt 11 = .ok (.invokevirtual 139, 3) := by decide +kernel
theorem dX8_boreAt_14 : decode cX8_boreAt 14 = .ok (.goto 5, 3) := by decide +kernel
theorem dX8_boreAt_17 : decode cX8_boreAt 17 = .ok (.ldc 128, 2) := by decide +kernel
theorem dX8_boreAt_19 : decode cX8_boreAt 19 = .ok (.ireturn, 1) := by decide +kernel
theorem dX8_ofGrade_0 : decode cX8_ofGrade 0 = .ok (.iconst 0, 1) := by decide +kernel
theorem dX8_ofGrade_1 : decode cX8_ofGrade 1 = .ok (.istore_n 2, 1) := by decide +kernel
theorem dX8_ofGrade_2 : decode cX8_ofGrade 2 = .ok (.iconst 0, 1) := by decide +kernel
theorem dX8_ofGrade_3 : decode cX8_ofGrade 3 = .ok (.istore_n 3, 1) := by decide +kernel
theorem dX8_ofGrade_4 : decode cX8_ofGrade 4 = .ok (.iload_n 3, 1) := by decide +kernel
theorem dX8_ofGrade_5 : decode cX8_ofGrade 5 = .ok (.aload_n 0, 1) := by decide +kernel
theorem dX8_ofGrade_6 : decode cX8_ofGrade 6 = .ok (.getfield 7, 3) := by decide +kernel
theorem dX8_ofGrade_9 : decode cX8_ofGrade 9 = .ok (.bipush 8, 2) := by decide +kernel
theorem dX8_ofGrade_11 : decode cX8_ofGrade 11 = .ok (.iaload, 1) := by decide +kernel
theorem dX8_ofGrade_12 : decode cX8_ofGrade 12 = .ok (.if_icmp .ge 30, 3) := by decide +kernel
theorem dX8_ofGrade_15 : decode cX8_ofGrade 15 = .ok (.iload_n 2, 1) := by decide +kernel
theorem dX8_ofGrade_16 : decode cX8_ofGrade 16 = .ok (.aload_n 0, 1) := by decide +kernel
theorem dX8_ofGrade_17 : decode cX8_ofGrade 17 = .ok (.getfield 7, 3) := by decide +kernel
theorem dX8_ofGrade_20 : decode cX8_ofGrade 20 = .ok (.bipush 9, 2) := by decide +kernel
theorem dX8_ofGrade_22 : decode cX8_ofGrade 22 = .ok (.iload_n 3, 1) := by decide +kernel
theorem dX8_ofGrade_23 : decode cX8_ofGrade 23 = .ok (.iadd, 1) := by decide +kernel
theorem dX8_ofGrade_24 : decode cX8_ofGrade 24 = .ok (.iaload, 1) := by decide +kernel
theorem dX8_ofGrade_25 : decode cX8_ofGrade 25 = .ok (.iload_n 1, 1) := by decide +kernel
theorem dX8_ofGrade_26 : decode cX8_ofGrade 26 = .ok (.if_icmp .ne 7, 3) := by decide +kernel
theorem dX8_ofGrade_29 : decode cX8_ofGrade 29 = .ok (.iconst 1, 1) := by decide +kernel
theorem dX8_ofGrade_30 : decode cX8_ofGrade 30 = .ok (.goto 4, 3) := by decide +kernel
theorem dX8_ofGrade_33 : decode cX8_ofGrade 33 = .ok (.iconst 0, 1) := by decide +kernel
theorem dX8_ofGrade_34 : decode cX8_ofGrade 34 = .ok (.iadd, 1) := by decide +kernel
theorem dX8_ofGrade_35 : decode cX8_ofGrade 35 = .ok (.istore_n 2, 1) := by decide +kernel
theorem dX8_ofGrade_36 : decode cX8_ofGrade 36 = .ok (.iinc 3 1, 3) := by decide +kernel
theorem dX8_ofGrade_39 : decode cX8_ofGrade 39 = .ok (.goto (-35), 3) := by decide +kernel
theorem dX8_ofGrade_42 : decode cX8_ofGrade 42 = .ok (.iload_n 2, 1) := by decide +kernel
theorem dX8_ofGrade_43 : decode cX8_ofGrade 43 = .ok (.ireturn, 1) := by decide +kernel
theorem dX8_gradeAt_0 : decode cX8_gradeAt 0 = .ok (.iload_n 1, 1) := by decide +kernel
theorem dX8_gradeAt_1 : decode cX8_gradeAt 1 = .ok (.invokestatic 142, 3) := by decide +kernel
theorem dX8_gradeAt_4 : decode cX8_gradeAt 4 = .ok (.ifCond .ne 6, 3) := by decide +kernel
theorem dX8_gradeAt_7 : decode cX8_gradeAt 7 = .ok (.ldc 128, 2) := by decide +kernel
theorem dX8_gradeAt_9 : decode cX8_gradeAt 9 = .ok (.ireturn, 1) := by decide +kernel
theorem dX8_gradeAt_10 : decode cX8_gradeAt 10 = .ok (.iload_n 2, 1) := by decide +kernel
theorem dX8_gradeAt_11 : decode cX8_gradeAt 11 = .ok (.ifCond .ne 14, 3) := by decide +kernel
theorem dX8_gradeAt_14 : decode cX8_gradeAt 14 = .ok (.aload_n 0, 1) := by decide +kernel
theorem dX8_gradeAt_15 : decode cX8_gradeAt 15 = .ok (.getfield 7, 3) := by decide +kernel
theorem dX8_gradeAt_18 : decode cX8_gradeAt 18 = .ok (.iconst 0, 1) := by decide +kernel
theorem dX8_gradeAt_19 : decode cX8_gradeAt 19 = .ok (.iload_n 1, 1) := by decide +kernel
theorem dX8_gradeAt_20 : decode cX8_gradeAt 20 = .ok (.iadd, 1) := by decide +kernel
theorem dX8_gradeAt_21 : decode cX8_gradeAt 21 = .ok (.iaload, 1) := by decide +kernel
theorem dX8_gradeAt_22 : decode cX8_gradeAt 22 = .ok (.goto 34, 3) := by decide +kernel
theorem dX8_gradeAt_25 : decode cX8_gradeAt 25 = .ok (.iload_n 2, 1) := by decide +kernel
theorem dX8_gradeAt_26 : decode cX8_gradeAt 26 = .ok (.iconst 1, 1) := by decide +kernel
theorem dX8_gradeAt_27 : decode cX8_gradeAt 27 = .ok (.if_icmp .ne 14, 3) := by decide +kernel
theorem dX8_gradeAt_30 : decode cX8_gradeAt 30 = .ok (.aload_n 0, 1) := by decide +kernel
theorem dX8_gradeAt_31 : decode cX8_gradeAt 31 = .ok (.getfield 7, 3) := by decide +kernel
theorem dX8_gradeAt_34 : decode cX8_gradeAt 34 = .ok (.iconst 4, 1) := by decide +kernel
theorem dX8_gradeAt_35 : decode cX8_gradeAt 35 = .ok (.iload_n 1, 1) := by decide +kernel
theorem dX8_gradeAt_36 : decode cX8_gradeAt 36 = .ok (.iadd, 1) := by decide +kernel
theorem dX8_gradeAt_37 : decode cX8_gradeAt 37 = .ok (.iaload, 1) := by decide +kernel
theorem dX8_gradeAt_38 : decode cX8_gradeAt 38 = .ok (.goto 18, 3) := by decide +kernel
theorem dX8_gradeAt_41 : decode cX8_gradeAt 41 = .ok (.iload_n 2, 1) := by decide +kernel
theorem dX8_gradeAt_42 : decode cX8_gradeAt 42 = .ok (.iconst 2, 1) := by decide +kernel
theorem dX8_gradeAt_43 : decode cX8_gradeAt 43 = .ok (.if_icmp .ne 11, 3) := by decide +kernel
theorem dX8_gradeAt_46 : decode cX8_gradeAt 46 = .ok (.aload_n 0, 1) := by decide +kernel
theorem dX8_gradeAt_47 : decode cX8_gradeAt 47 = .ok (.iload_n 1, 1) := by decide +kernel
theorem dX8_gradeAt_48 : decode cX8_gradeAt 48 = .ok (.invokevirtual 145, 3) := by decide +kernel
theorem dX8_gradeAt_51 : decode cX8_gradeAt 51 = .ok (.goto 5, 3) := by decide +kernel
theorem dX8_gradeAt_54 : decode cX8_gradeAt 54 = .ok (.ldc 118, 2) := by decide +kernel
theorem dX8_gradeAt_56 : decode cX8_gradeAt 56 = .ok (.ireturn, 1) := by decide +kernel
theorem dX8_sort_0 : decode cX8_sort 0 = .ok (.iload_n 1, 1) := by decide +kernel
theorem dX8_sort_1 : decode cX8_sort 1 = .ok (.i2l, 1) := by decide +kernel
theorem dX8_sort_2 : decode cX8_sort 2 = .ok (.lconst 0, 1) := by decide +kernel
theorem dX8_sort_3 : decode cX8_sort 3 = .ok (.aload_n 0, 1) := by decide +kernel
theorem dX8_sort_4 : decode cX8_sort 4 = .ok (.getfield 7, 3) := by decide +kernel
theorem dX8_sort_7 : decode cX8_sort 7 = .ok (.bipush 82, 2) := by decide +kernel
theorem dX8_sort_9 : decode cX8_sort 9 = .ok (.iaload, 1) := by decide +kernel
theorem dX8_sort_10 : decode cX8_sort 10 = .ok (.iconst 1, 1) := by decide +kernel
theorem dX8_sort_11 : decode cX8_sort 11 = .ok (.isub, 1) := by decide +kernel
theorem dX8_sort_12 : decode cX8_sort 12 = .ok (.i2l, 1) := by decide +kernel
theorem dX8_sort_13 : decode cX8_sort 13 = .ok (.invokestatic 50, 3) := by decide +kernel
theorem dX8_sort_16 : decode cX8_sort 16 = .ok (.ifCond .ne 6, 3) := by decide +kernel
theorem dX8_sort_19 : decode cX8_sort 19 = .ok (.ldc 128, 2) := by decide +kernel
theorem dX8_sort_21 : decode cX8_sort 21 = .ok (.ireturn, 1) := by decide +kernel
theorem dX8_sort_22 : decode cX8_sort 22 = .ok (.iload_n 2, 1) := by decide +kernel
theorem dX8_sort_23 : decode cX8_sort 23 = .ok (.i2l, 1) := by decide +kernel
theorem dX8_sort_24 : decode cX8_sort 24 = .ok (.lconst 0, 1) := by decide +kernel
theorem dX8_sort_25 : decode cX8_sort 25 = .ok (.ldc2_w 48, 3) := by decide +kernel
theorem dX8_sort_28 : decode cX8_sort 28 = .ok (.invokestatic 50, 3) := by decide +kernel
theorem dX8_sort_31 : decode cX8_sort 31 = .ok (.ifCond .eq 20, 3) := by decide +kernel
theorem dX8_sort_34 : decode cX8_sort 34 = .ok (.aload_n 0, 1) := by decide +kernel
theorem dX8_sort_35 : decode cX8_sort 35 = .ok (.getfield 7, 3) := by decide +kernel
theorem dX8_sort_38 : decode cX8_sort 38 = .ok (.bipush 83, 2) := by decide +kernel
theorem dX8_sort_40 : decode cX8_sort 40 = .ok (.bipush 48, 2) := by decide +kernel
theorem dX8_sort_42 : decode cX8_sort 42 = .ok (.iload_n 2, 1) := by decide +kernel
theorem dX8_sort_43 : decode cX8_sort 43 = .ok (.imul, 1) := by decide +kernel
theorem dX8_sort_44 : decode cX8_sort 44 = .ok (.iadd, 1) := by decide +kernel
theorem dX8_sort_45 : decode cX8_sort 45 = .ok (.iload_n 1, 1) := by decide +kernel
theorem dX8_sort_46 : decode cX8_sort 46 = .ok (.iadd, 1) := by decide +kernel
theorem dX8_sort_47 : decode cX8_sort 47 = .ok (.iaload, 1) := by decide +kernel
theorem dX8_sort_48 : decode cX8_sort 48 = .ok (.goto 5, 3) := by decide +kernel
theorem dX8_sort_51 : decode cX8_sort 51 = .ok (.ldc 118, 2) := by decide +kernel
theorem dX8_sort_53 : decode cX8_sort 53 = .ok (.ireturn, 1) := by decide +kernel
theorem dX8_find_0 : decode cX8_find 0 = .ok (.iload_n 1, 1) := by decide +kernel
theorem dX8_find_1 : decode cX8_find 1 = .ok (.i2l, 1) := by decide +kernel
theorem dX8_find_2 : decode cX8_find 2 = .ok (.lconst 0, 1) := by decide +kernel
theorem dX8_find_3 : decode cX8_find 3 = .ok (.ldc2_w 148, 3) := by decide +kernel
theorem dX8_find_6 : decode cX8_find 6 = .ok (.invokestatic 50, 3) := by decide +kernel
theorem dX8_find_9 : decode cX8_find 9 = .ok (.ifCond .eq 19, 3) := by decide +kernel
theorem dX8_find_12 : decode cX8_find 12 = .ok (.iload_n 2, 1) := by decide +kernel
theorem dX8_find_13 : decode cX8_find 13 = .ok (.invokestatic 74, 3) := by decide +kernel
theorem dX8_find_16 : decode cX8_find 16 = .ok (.ifCond .eq 12, 3) := by decide +kernel
theorem dX8_find_19 : decode cX8_find 19 = .ok (.aload_n 0, 1) := by decide +kernel
theorem dX8_find_20 : decode cX8_find 20 = .ok (.iload_n 1, 1) := by decide +kernel
theorem dX8_find_21 : decode cX8_find 21 = .ok (.iload_n 2, 1) := by decide +kernel
theorem dX8_find_22 : decode cX8_find 22 = .ok (.invokevirtual 119, 3) := by decide +kernel
theorem dX8_find_25 : decode cX8_find 25 = .ok (.goto 5, 3) := by decide +kernel
theorem dX8_find_28 : decode cX8_find 28 = .ok (.ldc 118, 2) := by decide +kernel
theorem dX8_find_30 : decode cX8_find 30 = .ok (.ireturn, 1) := by decide +kernel
theorem dX8_remember_0 : decode cX8_remember 0 = .ok (.aload_n 0, 1) := by decide +kernel
theorem dX8_remember_1 : decode cX8_remember 1 = .ok (.getfield 115, 3) := by decide +kernel
theorem dX8_remember_4 : decode cX8_remember 4 = .ok (.bipush 16, 2) := by decide +kernel
theorem dX8_remember_6 : decode cX8_remember 6 = .ok (.if_icmp .ne 52, 3) := by decide +kernel
theorem dX8_remember_9 : decode cX8_remember 9 = .ok (.iconst 0, 1) := by decide +kernel
theorem dX8_remember_10 : decode cX8_remember 10 = .ok (.istore_n 1, 1) := by decide +kernel
theorem dX8_remember_11 : decode cX8_remember 11 = .ok (.iload_n 1, 1) := by decide +kernel
theorem dX8_remember_12 : decode cX8_remember 12 = .ok (.sipush 4125, 3) := by decide +kernel
theorem dX8_remember_15 : decode cX8_remember 15 = .ok (.if_icmp .ge 33, 3) := by decide +kernel
theorem dX8_remember_18 : decode cX8_remember 18 = .ok (.aload_n 0, 1) := by decide +kernel
theorem dX8_remember_19 : decode cX8_remember 19 = .ok (.getfield 7, 3) := by decide +kernel
theorem dX8_remember_22 : decode cX8_remember 22 = .ok (.sipush 825, 3) := by decide +kernel
theorem dX8_remember_25 : decode cX8_remember 25 = .ok (.iload_n 1, 1) := by decide +kernel
theorem dX8_remember_26 : decode cX8_remember 26 = .ok (.iadd, 1) := by decide +kernel
theorem dX8_remember_27 : decode cX8_remember 27 = .ok (.aload_n 0, 1) := by decide +kernel
theorem dX8_remember_28 : decode cX8_remember 28 = .ok (.getfield 7, 3) := by decide +kernel
theorem dX8_remember_31 : decode cX8_remember 31 = .ok (.sipush 825, 3) := by decide +kernel
theorem dX8_remember_34 : decode cX8_remember 34 = .ok (.iload_n 1, 1) := by decide +kernel
theorem dX8_remember_35 : decode cX8_remember 35 = .ok (.iadd, 1) := by decide +kernel
theorem dX8_remember_36 : decode cX8_remember 36 = .ok (.sipush 275, 3) := by decide +kernel
theorem dX8_remember_39 : decode cX8_remember 39 = .ok (.iadd, 1) := by decide +kernel
theorem dX8_remember_40 : decode cX8_remember 40 = .ok (.iaload, 1) := by decide +kernel
theorem dX8_remember_41 : decode cX8_remember 41 = .ok (.iastore, 1) := by decide +kernel
theorem dX8_remember_42 : decode cX8_remember 42 = .ok (.iinc 1 1, 3) := by decide +kernel
theorem dX8_remember_45 : decode cX8_remember 45 = .ok (.goto (-34), 3) := by decide +kernel
theorem dX8_remember_48 : decode cX8_remember 48 = .ok (.aload_n 0, 1) := by decide +kernel
theorem dX8_remember_49 : decode cX8_remember 49 = .ok (.dup, 1) := by decide +kernel
theorem dX8_remember_50 : decode cX8_remember 50 = .ok (.getfield 115, 3) := by decide +kernel
theorem dX8_remember_53 : decode cX8_remember 53 = .ok (.iconst 1, 1) := by decide +kernel
theorem dX8_remember_54 : decode cX8_remember 54 = .ok (.isub, 1) := by decide +kernel
theorem dX8_remember_55 : decode cX8_remember 55 = .ok (.putfield 115, 3) := by decide +kernel
theorem dX8_remember_58 : decode cX8_remember 58 = .ok (.aload_n 0, 1) := by decide +kernel
theorem dX8_remember_59 : decode cX8_remember 59 = .ok (.iconst 0, 1) := by decide +kernel
theorem dX8_remember_60 : decode cX8_remember 60 = .ok (.sipush 825, 3) := by decide +kernel
theorem dX8_remember_63 : decode cX8_remember 63 = .ok (.sipush 275, 3) := by decide +kernel
theorem dX8_remember_66 : decode cX8_remember 66 = .ok (.aload_n 0, 1) := by decide +kernel
theorem dX8_remember_67 : decode cX8_remember 67 = .ok (.getfield 115, 3) := by decide +kernel
theorem dX8_remember_70 : decode cX8_remember 70 = .ok (.imul, 1) := by decide +kernel
theorem dX8_remember_71 : decode cX8_remember 71 = .ok (.iadd, 1) := by decide +kernel
theorem dX8_remember_72 : decode cX8_remember 72 = .ok (.invokevirtual 150, 3) := by decide +kernel
theorem dX8_remember_75 : decode cX8_remember 75 = .ok (.aload_n 0, 1) := by decide +kernel
theorem dX8_remember_76 : decode cX8_remember 76 = .ok (.dup, 1) := by decide +kernel
theorem dX8_remember_77 : decode cX8_remember 77 = .ok (.getfield 115, 3) := by decide +kernel
theorem dX8_remember_80 : decode cX8_remember 80 = .ok (.iconst 1, 1) := by decide +kernel
theorem dX8_remember_81 : decode cX8_remember 81 = .ok (.iadd, 1) := by decide +kernel
theorem dX8_remember_82 : decode cX8_remember 82 = .ok (.putfield 115, 3) := by decide +kernel
theorem dX8_remember_85 : decode cX8_remember 85 = .ok (.return_, 1) := by decide +kernel
theorem dX8_isRoomFor_0 : decode cX8_isRoomFor 0 = .ok (.iload_n 1, 1) := by decide +kernel
theorem dX8_isRoomFor_1 : decode cX8_isRoomFor 1 = .ok (.iconst 4, 1) := by decide +kernel
theorem dX8_isRoomFor_2 : decode cX8_isRoomFor 2 = .ok (.if_icmp .ne 13, 3) := by decide +kernel
theorem dX8_isRoomFor_5 : decode cX8_isRoomFor 5 = .ok (.aload_n 0, 1) := by decide +kernel
theorem dX8_isRoomFor_6 : decode cX8_isRoomFor 6 = .ok (.getfield 7, 3) := by decide +kernel
theorem dX8_isRoomFor_9 : decode cX8_isRoomFor 9 = .ok (.bipush 57, 2) := by decide +kernel
theorem dX8_isRoomFor_11 : decode cX8_isRoomFor 11 = .ok (.iaload, 1) := by decide +kernel
theorem dX8_isRoomFor_12 : decode cX8_isRoomFor 12 = .ok (.goto 10, 3) := by decide +kernel
theorem dX8_isRoomFor_15 : decode cX8_isRoomFor 15 = .ok (.aload_n 0, 1) := by decide +kernel
theorem dX8_isRoomFor_16 : decode cX8_isRoomFor 16 = .ok (.getfield 7, 3) := by decide +kernel
theorem dX8_isRoomFor_19 : decode cX8_isRoomFor 19 = .ok (.bipush 8, 2) := by decide +kernel
theorem dX8_isRoomFor_21 : decode cX8_isRoomFor 21 = .ok (.iaload, 1) := by decide +kernel
theorem dX8_isRoomFor_22 : decode cX8_isRoomFor 22 = .ok (.bipush 24, 2) := by decide +kernel
theorem dX8_isRoomFor_24 : decode cX8_isRoomFor 24 = .ok (.if_icmp .ge 29, 3) := by decide +kernel
theorem dX8_isRoomFor_27 : decode cX8_isRoomFor 27 = .ok (.aload_n 0, 1) := by decide +kernel
theorem dX8_isRoomFor_28 : decode cX8_isRoomFor 28 = .ok (.getfield 7, 3) := by decide +kernel
theorem dX8_isRoomFor_31 : decode cX8_isRoomFor 31 = .ok (.bipush 82, 2) := by decide +kernel
theorem dX8_isRoomFor_33 : decode cX8_isRoomFor 33 = .ok (.iaload, 1) := by decide +kernel
theorem dX8_isRoomFor_34 : decode cX8_isRoomFor 34 = .ok (.bipush 48, 2) := by decide +kernel
theorem dX8_isRoomFor_36 : decode cX8_isRoomFor 36 = .ok (.if_icmp .lt 13, 3) := by decide +kernel
theorem dX8_isRoomFor_39 : decode cX8_isRoomFor 39 = .ok (.aload_n 0, 1) := by decide +kernel
theorem dX8_isRoomFor_40 : decode cX8_isRoomFor 40 = .ok (.iload_n 1, 1) := by decide +kernel
theorem dX8_isRoomFor_41 : decode cX8_isRoomFor 41 = .ok (.iload_n 2, 1) := by decide +kernel
theorem dX8_isRoomFor_42 : decode cX8_isRoomFor 42 = .ok (.invokevirtual 119, 3) := by decide +kernel
theorem dX8_isRoomFor_45 : decode cX8_isRoomFor 45 = .ok (.iconst (-1), 1) := by decide +kernel
theorem dX8_isRoomFor_46 : decode cX8_isRoomFor 46 = .ok (.if_icmp .eq 7, 3) := by decide +kernel
theorem dX8_isRoomFor_49 : decode cX8_isRoomFor 49 = .ok (.iconst 1, 1) := by decide +kernel
theorem dX8_isRoomFor_50 : decode cX8_isRoomFor 50 = .ok (.goto 4, 3) := by decide +kernel
theorem dX8_isRoomFor_53 : decode cX8_isRoomFor 53 = .ok (.iconst 0, 1) := by decide +kernel
theorem dX8_isRoomFor_54 : decode cX8_isRoomFor 54 = .ok (.ireturn, 1) := by decide +kernel
theorem dX8_comesSort_0 : decode cX8_comesSort 0 = .ok (.aload_n 0, 1) := by decide +kernel
theorem dX8_comesSort_1 : decode cX8_comesSort 1 = .ok (.iload_n 1, 1) := by decide +kernel
theorem dX8_comesSort_2 : decode cX8_comesSort 2 = .ok (.iload_n 2, 1) := by decide +kernel
theorem dX8_comesSort_3 : decode cX8_comesSort 3 = .ok (.invokevirtual 119, 3) := by decide +kernel
theorem dX8_comesSort_6 : decode cX8_comesSort 6 = .ok (.istore_n 3, 1) := by decide +kernel
theorem dX8_comesSort_7 : decode cX8_comesSort 7 = .ok (.iload_n 3, 1) := by decide +kernel
theorem dX8_comesSort_8 : decode cX8_comesSort 8 = .ok (.iconst (-1), 1) := by decide +kernel
theorem dX8_comesSort_9 : decode cX8_comesSort 9 = .ok (.if_icmp .ne 65, 3) := by decide +kernel
theorem dX8_comesSort_12 : decode cX8_comesSort 12 = .ok (.aload_n 0, 1) := by decide +kernel
theorem dX8_comesSort_13 : decode cX8_comesSort 13 = .ok (.getfield 7, 3) := by decide +kernel
theorem dX8_comesSort_16 : decode cX8_comesSort 16 = .ok (.bipush 82, 2) := by decide +kernel
theorem dX8_comesSort_18 : decode cX8_comesSort 18 = .ok (.iaload, 1) := by decide +kernel
theorem dX8_comesSort_19 : decode cX8_comesSort 19 = .ok (.istore_n 3, 1) := by decide +kernel
theorem dX8_comesSort_20 : decode cX8_comesSort 20 = .ok (.aload_n 0, 1) := by decide +kernel
theorem dX8_comesSort_21 : decode cX8_comesSort 21 = .ok (.getfield 7, 3) := by decide +kernel
theorem dX8_comesSort_24 : decode cX8_comesSort 24 = .ok (.bipush 83, 2) := by decide +kernel
theorem dX8_comesSort_26 : decode cX8_comesSort 26 = .ok (.iload_n 3, 1) := by decide +kernel
theorem dX8_comesSort_27 : decode cX8_comesSort 27 = .ok (.iadd, 1) := by decide +kernel
theorem dX8_comesSort_28 : decode cX8_comesSort 28 = .ok (.iload_n 1, 1) := by decide +kernel
theorem dX8_comesSort_29 : decode cX8_comesSort 29 = .ok (.iastore, 1) := by decide +kernel
theorem dX8_comesSort_30 : decode cX8_comesSort 30 = .ok (.aload_n 0, 1) := by decide +kernel
theorem dX8_comesSort_31 : decode cX8_comesSort 31 = .ok (.getfield 7, 3) := by decide +kernel
theorem dX8_comesSort_34 : decode cX8_comesSort 34 = .ok (.sipush 131, 3) := by decide +kernel
theorem dX8_comesSort_37 : decode cX8_comesSort 37 = .ok (.iload_n 3, 1) := by decide +kernel
theorem dX8_comesSort_38 : decode cX8_comesSort 38 = .ok (.iadd, 1) := by decide +kernel
theorem dX8_comesSort_39 : decode cX8_comesSort 39 = .ok (.iload_n 2, 1) := by decide +kernel
theorem dX8_comesSort_40 : decode cX8_comesSort 40 = .ok (.iastore, 1) := by decide +kernel
theorem dX8_comesSort_41 : decode cX8_comesSort 41 = .ok (.aload_n 0, 1) := by decide +kernel
theorem dX8_comesSort_42 : decode cX8_comesSort 42 = .ok (.getfield 7, 3) := by decide +kernel
theorem dX8_comesSort_45 : decode cX8_comesSort 45 = .ok (.sipush 179, 3) := by decide +kernel
theorem dX8_comesSort_48 : decode cX8_comesSort 48 = .ok (.iload_n 3, 1) := by decide +kernel
theorem dX8_comesSort_49 : decode cX8_comesSort 49 = .ok (.iadd, 1) := by decide +kernel
theorem dX8_comesSort_50 : decode cX8_comesSort 50 = .ok (.iconst 0, 1) := by decide +kernel
theorem dX8_comesSort_51 : decode cX8_comesSort 51 = .ok (.iastore, 1) := by decide +kernel
theorem dX8_comesSort_52 : decode cX8_comesSort 52 = .ok (.aload_n 0, 1) := by decide +kernel
theorem dX8_comesSort_53 : decode cX8_comesSort 53 = .ok (.getfield 7, 3) := by decide +kernel
theorem dX8_comesSort_56 : decode cX8_comesSort 56 = .ok (.sipush 227, 3) := by decide +kernel
theorem dX8_comesSort_59 : decode cX8_comesSort 59 = .ok (.iload_n 3, 1) := by decide +kernel
theorem dX8_comesSort_60 : decode cX8_comesSort 60 = .ok (.iadd, 1) := by decide +kernel
theorem dX8_comesSort_61 : decode cX8_comesSort 61 = .ok (.iconst 0, 1) := by decide +kernel
theorem dX8_comesSort_62 : decode cX8_comesSort 62 = .ok (.iastore, 1) := by decide +kernel
theorem dX8_comesSort_63 : decode cX8_comesSort 63 = .ok (.aload_n 0, 1) := by decide +kernel
theorem dX8_comesSort_64 : decode cX8_comesSort 64 = .ok (.getfield 7, 3) := by decide +kernel
theorem dX8_comesSort_67 : decode cX8_comesSort 67 = .ok (.bipush 82, 2) := by decide +kernel
theorem dX8_comesSort_69 : decode cX8_comesSort 69 = .ok (.dup2, 1) := by decide +kernel
theorem dX8_comesSort_70 : decode cX8_comesSort 70 = .ok (.iaload, 1) := by decide +kernel
theorem dX8_comesSort_71 : decode cX8_comesSort 71 = .ok (.iconst 1, 1) := by decide +kernel
theorem dX8_comesSort_72 : decode cX8_comesSort 72 = .ok (.iadd, 1) := by decide +kernel
theorem dX8_comesSort_73 : decode cX8_comesSort 73 = .ok (.iastore, 1) := by decide +kernel
theorem dX8_comesSort_74 : decode cX8_comesSort 74 = .ok (.aload_n 0, 1) := by decide +kernel
theorem dX8_comesSort_75 : decode cX8_comesSort 75 = .ok (.getfield 7, 3) := by decide +kernel
theorem dX8_comesSort_78 : decode cX8_comesSort 78 = .ok (.sipush 179, 3) := by decide +kernel
theorem dX8_comesSort_81 : decode cX8_comesSort 81 = .ok (.iload_n 3, 1) := by decide +kernel
theorem dX8_comesSort_82 : decode cX8_comesSort 82 = .ok (.iadd, 1) := by decide +kernel
theorem dX8_comesSort_83 : decode cX8_comesSort 83 = .ok (.dup2, 1) := by decide +kernel
theorem dX8_comesSort_84 : decode cX8_comesSort 84 = .ok (.iaload, 1) := by decide +kernel
theorem dX8_comesSort_85 : decode cX8_comesSort 85 = .ok (.iconst 1, 1) := by decide +kernel
theorem dX8_comesSort_86 : decode cX8_comesSort 86 = .ok (.iadd, 1) := by decide +kernel
theorem dX8_comesSort_87 : decode cX8_comesSort 87 = .ok (.iastore, 1) := by decide +kernel
theorem dX8_comesSort_88 : decode cX8_comesSort 88 = .ok (.aload_n 0, 1) := by decide +kernel
theorem dX8_comesSort_89 : decode cX8_comesSort 89 = .ok (.getfield 7, 3) := by decide +kernel
theorem dX8_comesSort_92 : decode cX8_comesSort 92 = .ok (.sipush 227, 3) := by decide +kernel
theorem dX8_comesSort_95 : decode cX8_comesSort 95 = .ok (.iload_n 3, 1) := by decide +kernel
theorem dX8_comesSort_96 : decode cX8_comesSort 96 = .ok (.iadd, 1) := by decide +kernel
theorem dX8_comesSort_97 : decode cX8_comesSort 97 = .ok (.dup2, 1) := by decide +kernel
theorem dX8_comesSort_98 : decode cX8_comesSort 98 = .ok (.iaload, 1) := by decide +kernel
theorem dX8_comesSort_99 : decode cX8_comesSort 99 = .ok (.iconst 1, 1) := by decide +kernel
theorem dX8_comesSort_100 : decode cX8_comesSort 100 = .ok (.iadd, 1) := by decide +kernel
theorem dX8_comesSort_101 : decode cX8_comesSort 101 = .ok (.iastore, 1) := by decide +kernel
theorem dX8_comesSort_102 : decode cX8_comesSort 102 = .ok (.return_, 1) := by decide +kernel
theorem dX8_comes_0 : decode cX8_comes 0 = .ok (.iload_n 1, 1) := by decide +kernel
theorem dX8_comes_1 : decode cX8_comes 1 = .ok (.iconst 4, 1) := by decide +kernel
theorem dX8_comes_2 : decode cX8_comes 2 = .ok (.if_icmp .ne 33, 3) := by decide +kernel
theorem dX8_comes_5 : decode cX8_comes 5 = .ok (.aload_n 0, 1) := by decide +kernel
theorem dX8_comes_6 : decode cX8_comes 6 = .ok (.getfield 7, 3) := by decide +kernel
theorem dX8_comes_9 : decode cX8_comes 9 = .ok (.bipush 58, 2) := by decide +kernel
theorem dX8_comes_11 : decode cX8_comes 11 = .ok (.aload_n 0, 1) := by decide +kernel
theorem dX8_comes_12 : decode cX8_comes 12 = .ok (.getfield 7, 3) := by decide +kernel
theorem dX8_comes_15 : decode cX8_comes 15 = .ok (.bipush 57, 2) := by decide +kernel
theorem dX8_comes_17 : decode cX8_comes 17 = .ok (.iaload, 1) := by decide +kernel
end
section
theorem dX8_comes_18 : decode cX8_comes 18 = .ok (.iadd, 1) := by decide +kernel
theorem dX8_comes_19 : decode cX8_comes 19 = .ok (.iload_n 2, 1) := by decide +kernel
theorem dX8_comes_20 : decode cX8_comes 20 = .ok (.iastore, 1) := by decide +kernel
theorem dX8_comes_21 : decode cX8_comes 21 = .ok (.aload_n 0, 1) := by decide +kernel
theorem dX8_comes_22 : decode cX8_comes 22 = .ok (.getfield 7, 3) := by decide +kernel
theorem dX8_comes_25 : decode cX8_comes 25 = .ok (.bipush 57, 2) := by decide +kernel
theorem dX8_comes_27 : decode cX8_comes 27 = .ok (.dup2, 1) := by decide +kernel
theorem dX8_comes_28 : decode cX8_comes 28 = .ok (.iaload, 1) := by decide +kernel
theorem dX8_comes_29 : decode cX8_comes 29 = .ok (.iconst 1, 1) := by decide +kernel
theorem dX8_comes_30 : decode cX8_comes 30 = .ok (.iadd, 1) := by decide +kernel
theorem dX8_comes_31 : decode cX8_comes 31 = .ok (.iastore, 1) := by decide +kernel
theorem dX8_comes_32 : decode cX8_comes 32 = .ok (.goto 46, 3) := by decide +kernel
theorem dX8_comes_35 : decode cX8_comes 35 = .ok (.aload_n 0, 1) := by decide +kernel
theorem dX8_comes_36 : decode cX8_comes 36 = .ok (.getfield 7, 3) := by decide +kernel
theorem dX8_comes_39 : decode cX8_comes 39 = .ok (.bipush 9, 2) := by decide +kernel
theorem dX8_comes_41 : decode cX8_comes 41 = .ok (.aload_n 0, 1) := by decide +kernel
theorem dX8_comes_42 : decode cX8_comes 42 = .ok (.getfield 7, 3) := by decide +kernel
theorem dX8_comes_45 : decode cX8_comes 45 = .ok (.bipush 8, 2) := by decide +kernel
theorem dX8_comes_47 : decode cX8_comes 47 = .ok (.iaload, 1) := by decide +kernel
theorem dX8_comes_48 : decode cX8_comes 48 = .ok (.iadd, 1) := by decide +kernel
theorem dX8_comes_49 : decode cX8_comes 49 = .ok (.iload_n 1, 1) := by decide +kernel
theorem dX8_comes_50 : decode cX8_comes 50 = .ok (.iastore, 1) := by decide +kernel
theorem dX8_comes_51 : decode cX8_comes 51 = .ok (.aload_n 0, 1) := by decide +kernel
theorem dX8_comes_52 : decode cX8_comes 52 = .ok (.getfield 7, 3) := by decide +kernel
theorem dX8_comes_55 : decode cX8_comes 55 = .ok (.bipush 33, 2) := by decide +kernel
theorem dX8_comes_57 : decode cX8_comes 57 = .ok (.aload_n 0, 1) := by decide +kernel
theorem dX8_comes_58 : decode cX8_comes 58 = .ok (.getfield 7, 3) := by decide +kernel
theorem dX8_comes_61 : decode cX8_comes 61 = .ok (.bipush 8, 2) := by decide +kernel
theorem dX8_comes_63 : decode cX8_comes 63 = .ok (.iaload, 1) := by decide +kernel
theorem dX8_comes_64 : decode cX8_comes 64 = .ok (.iadd, 1) := by decide +kernel
theorem dX8_comes_65 : decode cX8_comes 65 = .ok (.iload_n 2, 1) := by decide +kernel
theorem dX8_comes_66 : decode cX8_comes 66 = .ok (.iastore, 1) := by decide +kernel
theorem dX8_comes_67 : decode cX8_comes 67 = .ok (.aload_n 0, 1) := by decide +kernel
theorem dX8_comes_68 : decode cX8_comes 68 = .ok (.getfield 7, 3) := by decide +kernel
theorem dX8_comes_71 : decode cX8_comes 71 = .ok (.bipush 8, 2) := by decide +kernel
theorem dX8_comes_73 : decode cX8_comes 73 = .ok (.dup2, 1) := by decide +kernel
theorem dX8_comes_74 : decode cX8_comes 74 = .ok (.iaload, 1) := by decide +kernel
theorem dX8_comes_75 : decode cX8_comes 75 = .ok (.iconst 1, 1) := by decide +kernel
theorem dX8_comes_76 : decode cX8_comes 76 = .ok (.iadd, 1) := by decide +kernel
theorem dX8_comes_77 : decode cX8_comes 77 = .ok (.iastore, 1) := by decide +kernel
theorem dX8_comes_78 : decode cX8_comes 78 = .ok (.aload_n 0, 1) := by decide +kernel
theorem dX8_comes_79 : decode cX8_comes 79 = .ok (.iload_n 1, 1) := by decide +kernel
theorem dX8_comes_80 : decode cX8_comes 80 = .ok (.iload_n 2, 1) := by decide +kernel
theorem dX8_comes_81 : decode cX8_comes 81 = .ok (.invokevirtual 154, 3) := by decide +kernel
theorem dX8_comes_84 : decode cX8_comes 84 = .ok (.return_, 1) := by decide +kernel
theorem dX8_shaft_0 : decode cX8_shaft 0 = .ok (.iload_n 1, 1) := by decide +kernel
theorem dX8_shaft_1 : decode cX8_shaft 1 = .ok (.invokestatic 142, 3) := by decide +kernel
theorem dX8_shaft_4 : decode cX8_shaft 4 = .ok (.ifCond .ne 6, 3) := by decide +kernel
theorem dX8_shaft_7 : decode cX8_shaft 7 = .ok (.ldc 128, 2) := by decide +kernel
theorem dX8_shaft_9 : decode cX8_shaft 9 = .ok (.ireturn, 1) := by decide +kernel
theorem dX8_shaft_10 : decode cX8_shaft 10 = .ok (.iload_n 2, 1) := by decide +kernel
theorem dX8_shaft_11 : decode cX8_shaft 11 = .ok (.invokestatic 74, 3) := by decide +kernel
theorem dX8_shaft_14 : decode cX8_shaft 14 = .ok (.ifCond .ne 6, 3) := by decide +kernel
theorem dX8_shaft_17 : decode cX8_shaft 17 = .ok (.ldc 118, 2) := by decide +kernel
theorem dX8_shaft_19 : decode cX8_shaft 19 = .ok (.ireturn, 1) := by decide +kernel
theorem dX8_shaft_20 : decode cX8_shaft 20 = .ok (.aload_n 0, 1) := by decide +kernel
theorem dX8_shaft_21 : decode cX8_shaft 21 = .ok (.iload_n 1, 1) := by decide +kernel
theorem dX8_shaft_22 : decode cX8_shaft 22 = .ok (.iload_n 2, 1) := by decide +kernel
theorem dX8_shaft_23 : decode cX8_shaft 23 = .ok (.invokevirtual 157, 3) := by decide +kernel
theorem dX8_shaft_26 : decode cX8_shaft 26 = .ok (.ifCond .ne 6, 3) := by decide +kernel
theorem dX8_shaft_29 : decode cX8_shaft 29 = .ok (.ldc 160, 2) := by decide +kernel
theorem dX8_shaft_31 : decode cX8_shaft 31 = .ok (.ireturn, 1) := by decide +kernel
theorem dX8_shaft_32 : decode cX8_shaft 32 = .ok (.aload_n 0, 1) := by decide +kernel
theorem dX8_shaft_33 : decode cX8_shaft 33 = .ok (.invokevirtual 161, 3) := by decide +kernel
theorem dX8_shaft_36 : decode cX8_shaft 36 = .ok (.aload_n 0, 1) := by decide +kernel
theorem dX8_shaft_37 : decode cX8_shaft 37 = .ok (.iload_n 1, 1) := by decide +kernel
theorem dX8_shaft_38 : decode cX8_shaft 38 = .ok (.iload_n 2, 1) := by decide +kernel
theorem dX8_shaft_39 : decode cX8_shaft 39 = .ok (.invokevirtual 164, 3) := by decide +kernel
theorem dX8_shaft_42 : decode cX8_shaft 42 = .ok (.aload_n 0, 1) := by decide +kernel
theorem dX8_shaft_43 : decode cX8_shaft 43 = .ok (.getfield 7, 3) := by decide +kernel
theorem dX8_shaft_46 : decode cX8_shaft 46 = .ok (.bipush 8, 2) := by decide +kernel
theorem dX8_shaft_48 : decode cX8_shaft 48 = .ok (.iaload, 1) := by decide +kernel
theorem dX8_shaft_49 : decode cX8_shaft 49 = .ok (.iconst 1, 1) := by decide +kernel
theorem dX8_shaft_50 : decode cX8_shaft 50 = .ok (.isub, 1) := by decide +kernel
theorem dX8_shaft_51 : decode cX8_shaft 51 = .ok (.ireturn, 1) := by decide +kernel
theorem dX8_bore_0 : decode cX8_bore 0 = .ok (.iload_n 1, 1) := by decide +kernel
theorem dX8_bore_1 : decode cX8_bore 1 = .ok (.invokestatic 74, 3) := by decide +kernel
theorem dX8_bore_4 : decode cX8_bore 4 = .ok (.ifCond .ne 6, 3) := by decide +kernel
theorem dX8_bore_7 : decode cX8_bore 7 = .ok (.ldc 118, 2) := by decide +kernel
theorem dX8_bore_9 : decode cX8_bore 9 = .ok (.ireturn, 1) := by decide +kernel
theorem dX8_bore_10 : decode cX8_bore 10 = .ok (.aload_n 0, 1) := by decide +kernel
theorem dX8_bore_11 : decode cX8_bore 11 = .ok (.iconst 4, 1) := by decide +kernel
theorem dX8_bore_12 : decode cX8_bore 12 = .ok (.iload_n 1, 1) := by decide +kernel
theorem dX8_bore_13 : decode cX8_bore 13 = .ok (.invokevirtual 157, 3) := by decide +kernel
theorem dX8_bore_16 : decode cX8_bore 16 = .ok (.ifCond .ne 6, 3) := by decide +kernel
theorem dX8_bore_19 : decode cX8_bore 19 = .ok (.ldc 160, 2) := by decide +kernel
theorem dX8_bore_21 : decode cX8_bore 21 = .ok (.ireturn, 1) := by decide +kernel
theorem dX8_bore_22 : decode cX8_bore 22 = .ok (.aload_n 0, 1) := by decide +kernel
theorem dX8_bore_23 : decode cX8_bore 23 = .ok (.invokevirtual 161, 3) := by decide +kernel
theorem dX8_bore_26 : decode cX8_bore 26 = .ok (.aload_n 0, 1) := by decide +kernel
theorem dX8_bore_27 : decode cX8_bore 27 = .ok (.iconst 4, 1) := by decide +kernel
theorem dX8_bore_28 : decode cX8_bore 28 = .ok (.iload_n 1, 1) := by decide +kernel
theorem dX8_bore_29 : decode cX8_bore 29 = .ok (.invokevirtual 164, 3) := by decide +kernel
theorem dX8_bore_32 : decode cX8_bore 32 = .ok (.aload_n 0, 1) := by decide +kernel
theorem dX8_bore_33 : decode cX8_bore 33 = .ok (.getfield 7, 3) := by decide +kernel
theorem dX8_bore_36 : decode cX8_bore 36 = .ok (.bipush 57, 2) := by decide +kernel
theorem dX8_bore_38 : decode cX8_bore 38 = .ok (.iaload, 1) := by decide +kernel
theorem dX8_bore_39 : decode cX8_bore 39 = .ok (.iconst 1, 1) := by decide +kernel
theorem dX8_bore_40 : decode cX8_bore 40 = .ok (.isub, 1) := by decide +kernel
theorem dX8_bore_41 : decode cX8_bore 41 = .ok (.ireturn, 1) := by decide +kernel
theorem dX8_shaftGoes_0 : decode cX8_shaftGoes 0 = .ok (.aload_n 0, 1) := by decide +kernel
theorem dX8_shaftGoes_1 : decode cX8_shaftGoes 1 = .ok (.getfield 7, 3) := by decide +kernel
theorem dX8_shaftGoes_4 : decode cX8_shaftGoes 4 = .ok (.sipush 179, 3) := by decide +kernel
theorem dX8_shaftGoes_7 : decode cX8_shaftGoes 7 = .ok (.aload_n 0, 1) := by decide +kernel
theorem dX8_shaftGoes_8 : decode cX8_shaftGoes 8 = .ok (.aload_n 0, 1) := by decide +kernel
theorem dX8_shaftGoes_9 : decode cX8_shaftGoes 9 = .ok (.getfield 7, 3) := by decide +kernel
theorem dX8_shaftGoes_12 : decode cX8_shaftGoes 12 = .ok (.bipush 9, 2) := by decide +kernel
theorem dX8_shaftGoes_14 : decode cX8_shaftGoes 14 = .ok (.iload_n 1, 1) := by decide +kernel
theorem dX8_shaftGoes_15 : decode cX8_shaftGoes 15 = .ok (.iadd, 1) := by decide +kernel
theorem dX8_shaftGoes_16 : decode cX8_shaftGoes 16 = .ok (.iaload, 1) := by decide +kernel
theorem dX8_shaftGoes_17 : decode cX8_shaftGoes 17 = .ok (.aload_n 0, 1) := by decide +kernel
theorem dX8_shaftGoes_18 : decode cX8_shaftGoes 18 = .ok (.getfield 7, 3) := by decide +kernel
theorem dX8_shaftGoes_21 : decode cX8_shaftGoes 21 = .ok (.bipush 33, 2) := by decide +kernel
theorem dX8_shaftGoes_23 : decode cX8_shaftGoes 23 = .ok (.iload_n 1, 1) := by decide +kernel
theorem dX8_shaftGoes_24 : decode cX8_shaftGoes 24 = .ok (.iadd, 1) := by decide +kernel
theorem dX8_shaftGoes_25 : decode cX8_shaftGoes 25 = .ok (.iaload, 1) := by decide +kernel
theorem dX8_shaftGoes_26 : decode cX8_shaftGoes 26 = .ok (.invokevirtual 119, 3) := by decide +kernel
theorem dX8_shaftGoes_29 : decode cX8_shaftGoes 29 = .ok (.iadd, 1) := by decide +kernel
theorem dX8_shaftGoes_30 : decode cX8_shaftGoes 30 = .ok (.dup2, 1) := by decide +kernel
theorem dX8_shaftGoes_31 : decode cX8_shaftGoes 31 = .ok (.iaload, 1) := by decide +kernel
theorem dX8_shaftGoes_32 : decode cX8_shaftGoes 32 = .ok (.iconst 1, 1) := by decide +kernel
theorem dX8_shaftGoes_33 : decode cX8_shaftGoes 33 = .ok (.isub, 1) := by decide +kernel
theorem dX8_shaftGoes_34 : decode cX8_shaftGoes 34 = .ok (.iastore, 1) := by decide +kernel
theorem dX8_shaftGoes_35 : decode cX8_shaftGoes 35 = .ok (.aload_n 0, 1) := by decide +kernel
theorem dX8_shaftGoes_36 : decode cX8_shaftGoes 36 = .ok (.getfield 7, 3) := by decide +kernel
theorem dX8_shaftGoes_39 : decode cX8_shaftGoes 39 = .ok (.bipush 8, 2) := by decide +kernel
theorem dX8_shaftGoes_41 : decode cX8_shaftGoes 41 = .ok (.dup2, 1) := by decide +kernel
theorem dX8_shaftGoes_42 : decode cX8_shaftGoes 42 = .ok (.iaload, 1) := by decide +kernel
theorem dX8_shaftGoes_43 : decode cX8_shaftGoes 43 = .ok (.iconst 1, 1) := by decide +kernel
theorem dX8_shaftGoes_44 : decode cX8_shaftGoes 44 = .ok (.isub, 1) := by decide +kernel
theorem dX8_shaftGoes_45 : decode cX8_shaftGoes 45 = .ok (.iastore, 1) := by decide +kernel
theorem dX8_shaftGoes_46 : decode cX8_shaftGoes 46 = .ok (.iload_n 1, 1) := by decide +kernel
theorem dX8_shaftGoes_47 : decode cX8_shaftGoes 47 = .ok (.istore_n 2, 1) := by decide +kernel
theorem dX8_shaftGoes_48 : decode cX8_shaftGoes 48 = .ok (.iload_n 2, 1) := by decide +kernel
theorem dX8_shaftGoes_49 : decode cX8_shaftGoes 49 = .ok (.aload_n 0, 1) := by decide +kernel
theorem dX8_shaftGoes_50 : decode cX8_shaftGoes 50 = .ok (.getfield 7, 3) := by decide +kernel
theorem dX8_shaftGoes_53 : decode cX8_shaftGoes 53 = .ok (.bipush 8, 2) := by decide +kernel
theorem dX8_shaftGoes_55 : decode cX8_shaftGoes 55 = .ok (.iaload, 1) := by decide +kernel
theorem dX8_shaftGoes_56 : decode cX8_shaftGoes 56 = .ok (.if_icmp .ge 49, 3) := by decide +kernel
theorem dX8_shaftGoes_59 : decode cX8_shaftGoes 59 = .ok (.aload_n 0, 1) := by decide +kernel
theorem dX8_shaftGoes_60 : decode cX8_shaftGoes 60 = .ok (.getfield 7, 3) := by decide +kernel
theorem dX8_shaftGoes_63 : decode cX8_shaftGoes 63 = .ok (.bipush 9, 2) := by decide +kernel
theorem dX8_shaftGoes_65 : decode cX8_shaftGoes 65 = .ok (.iload_n 2, 1) := by decide +kernel
theorem dX8_shaftGoes_66 : decode cX8_shaftGoes 66 = .ok (.iadd, 1) := by decide +kernel
theorem dX8_shaftGoes_67 : decode cX8_shaftGoes 67 = .ok (.aload_n 0, 1) := by decide +kernel
theorem dX8_shaftGoes_68 : decode cX8_shaftGoes 68 = .ok (.getfield 7, 3) := by decide +kernel
theorem dX8_shaftGoes_71 : decode cX8_shaftGoes 71 = .ok (.bipush 9, 2) := by decide +kernel
theorem dX8_shaftGoes_73 : decode cX8_shaftGoes 73 = .ok (.iload_n 2, 1) := by decide +kernel
theorem dX8_shaftGoes_74 : decode cX8_shaftGoes 74 = .ok (.iadd, 1) := by decide +kernel
theorem dX8_shaftGoes_75 : decode cX8_shaftGoes 75 = .ok (.iconst 1, 1) := by decide +kernel
theorem dX8_shaftGoes_76 : decode cX8_shaftGoes 76 = .ok (.iadd, 1) := by decide +kernel
theorem dX8_shaftGoes_77 : decode cX8_shaftGoes 77 = .ok (.iaload, 1) := by decide +kernel
theorem dX8_shaftGoes_78 : decode cX8_shaftGoes 78 = .ok (.iastore, 1) := by decide +kernel
theorem dX8_shaftGoes_79 : decode cX8_shaftGoes 79 = .ok (.aload_n 0, 1) := by decide +kernel
theorem dX8_shaftGoes_80 : decode cX8_shaftGoes 80 = .ok (.getfield 7, 3) := by decide +kernel
theorem dX8_shaftGoes_83 : decode cX8_shaftGoes 83 = .ok (.bipush 33, 2) := by decide +kernel
theorem dX8_shaftGoes_85 : decode cX8_shaftGoes 85 = .ok (.iload_n 2, 1) := by decide +kernel
theorem dX8_shaftGoes_86 : decode cX8_shaftGoes 86 = .ok (.iadd, 1) := by decide +kernel
theorem dX8_shaftGoes_87 : decode cX8_shaftGoes 87 = .ok (.aload_n 0, 1) := by decide +kernel
theorem dX8_shaftGoes_88 : decode cX8_shaftGoes 88 = .ok (.getfield 7, 3) := by decide +kernel
theorem dX8_shaftGoes_91 : decode cX8_shaftGoes 91 = .ok (.bipush 33, 2) := by decide +kernel
theorem dX8_shaftGoes_93 : decode cX8_shaftGoes 93 = .ok (.iload_n 2, 1) := by decide +kernel
theorem dX8_shaftGoes_94 : decode cX8_shaftGoes 94 = .ok (.iadd, 1) := by decide +kernel
theorem dX8_shaftGoes_95 : decode cX8_shaftGoes 95 = .ok (.iconst 1, 1) := by decide +kernel
theorem dX8_shaftGoes_96 : decode cX8_shaftGoes 96 = .ok (.iadd, 1) := by decide +kernel
theorem dX8_shaftGoes_97 : decode cX8_shaftGoes 97 = .ok (.iaload, 1) := by decide +kernel
theorem dX8_shaftGoes_98 : decode cX8_shaftGoes 98 = .ok (.iastore, 1) := by decide +kernel
theorem dX8_shaftGoes_99 : decode cX8_shaftGoes 99 = .ok (.iinc 2 1, 3) := by decide +kernel
theorem dX8_shaftGoes_102 : decode cX8_shaftGoes 102 = .ok (.goto (-54), 3) := by decide +kernel
theorem dX8_shaftGoes_105 : decode cX8_shaftGoes 105 = .ok (.return_, 1) := by decide +kernel
theorem dX8_boreGoes_0 : decode cX8_boreGoes 0 = .ok (.aload_n 0, 1) := by decide +kernel
theorem dX8_boreGoes_1 : decode cX8_boreGoes 1 = .ok (.getfield 7, 3) := by decide +kernel
theorem dX8_boreGoes_4 : decode cX8_boreGoes 4 = .ok (.sipush 179, 3) := by decide +kernel
theorem dX8_boreGoes_7 : decode cX8_boreGoes 7 = .ok (.aload_n 0, 1) := by decide +kernel
theorem dX8_boreGoes_8 : decode cX8_boreGoes 8 = .ok (.iconst 4, 1) := by decide +kernel
theorem dX8_boreGoes_9 : decode cX8_boreGoes 9 = .ok (.aload_n 0, 1) := by decide +kernel
theorem dX8_boreGoes_10 : decode cX8_boreGoes 10 = .ok (.getfield 7, 3) := by decide +kernel
theorem dX8_boreGoes_13 : decode cX8_boreGoes 13 = .ok (.bipush 58, 2) := by decide +kernel
theorem dX8_boreGoes_15 : decode cX8_boreGoes 15 = .ok (.iload_n 1, 1) := by decide +kernel
theorem dX8_boreGoes_16 : decode cX8_boreGoes 16 = .ok (.iadd, 1) := by decide +kernel
theorem dX8_boreGoes_17 : decode cX8_boreGoes 17 = .ok (.iaload, 1) := by decide +kernel
theorem dX8_boreGoes_18 : decode cX8_boreGoes 18 = .ok (.invokevirtual 119, 3) := by decide +kernel
theorem dX8_boreGoes_21 : decode cX8_boreGoes 21 = .ok (.iadd, 1) := by decide +kernel
theorem dX8_boreGoes_22 : decode cX8_boreGoes 22 = .ok (.dup2, 1) := by decide +kernel
theorem dX8_boreGoes_23 : decode cX8_boreGoes 23 = .ok (.iaload, 1) := by decide +kernel
theorem dX8_boreGoes_24 : decode cX8_boreGoes 24 = .ok (.iconst 1, 1) := by decide +kernel
theorem dX8_boreGoes_25 : decode cX8_boreGoes 25 = .ok (.isub, 1) := by decide +kernel
theorem dX8_boreGoes_26 : decode cX8_boreGoes 26 = .ok (.iastore, 1) := by decide +kernel
theorem dX8_boreGoes_27 : decode cX8_boreGoes 27 = .ok (.aload_n 0, 1) := by decide +kernel
theorem dX8_boreGoes_28 : decode cX8_boreGoes 28 = .ok (.getfield 7, 3) := by decide +kernel
theorem dX8_boreGoes_31 : decode cX8_boreGoes 31 = .ok (.bipush 57, 2) := by decide +kernel
theorem dX8_boreGoes_33 : decode cX8_boreGoes 33 = .ok (.dup2, 1) := by decide +kernel
theorem dX8_boreGoes_34 : decode cX8_boreGoes 34 = .ok (.iaload, 1) := by decide +kernel
theorem dX8_boreGoes_35 : decode cX8_boreGoes 35 = .ok (.iconst 1, 1) := by decide +kernel
theorem dX8_boreGoes_36 : decode cX8_boreGoes 36 = .ok (.isub, 1) := by decide +kernel
theorem dX8_boreGoes_37 : decode cX8_boreGoes 37 = .ok (.iastore, 1) := by decide +kernel
theorem dX8_boreGoes_38 : decode cX8_boreGoes 38 = .ok (.iload_n 1, 1) := by decide +kernel
theorem dX8_boreGoes_39 : decode cX8_boreGoes 39 = .ok (.istore_n 2, 1) := by decide +kernel
theorem dX8_boreGoes_40 : decode cX8_boreGoes 40 = .ok (.iload_n 2, 1) := by decide +kernel
theorem dX8_boreGoes_41 : decode cX8_boreGoes 41 = .ok (.aload_n 0, 1) := by decide +kernel
theorem dX8_boreGoes_42 : decode cX8_boreGoes 42 = .ok (.getfield 7, 3) := by decide +kernel
theorem dX8_boreGoes_45 : decode cX8_boreGoes 45 = .ok (.bipush 57, 2) := by decide +kernel
theorem dX8_boreGoes_47 : decode cX8_boreGoes 47 = .ok (.iaload, 1) := by decide +kernel
theorem dX8_boreGoes_48 : decode cX8_boreGoes 48 = .ok (.if_icmp .ge 29, 3) := by decide +kernel
theorem dX8_boreGoes_51 : decode cX8_boreGoes 51 = .ok (.aload_n 0, 1) := by decide +kernel
theorem dX8_boreGoes_52 : decode cX8_boreGoes 52 = .ok (.getfield 7, 3) := by decide +kernel
theorem dX8_boreGoes_55 : decode cX8_boreGoes 55 = .ok (.bipush 58, 2) := by decide +kernel
theorem dX8_boreGoes_57 : decode cX8_boreGoes 57 = .ok (.iload_n 2, 1) := by decide +kernel
theorem dX8_boreGoes_58 : decode cX8_boreGoes 58 = .ok (.iadd, 1) := by decide +kernel
theorem dX8_boreGoes_59 : decode cX8_boreGoes 59 = .ok (.aload_n 0, 1) := by decide +kernel
theorem dX8_boreGoes_60 : decode cX8_boreGoes 60 = .ok (.getfield 7, 3) := by decide +kernel
theorem dX8_boreGoes_63 : decode cX8_boreGoes 63 = .ok (.bipush 58, 2) := by decide +kernel
theorem dX8_boreGoes_65 : decode cX8_boreGoes 65 = .ok (.iload_n 2, 1) := by decide +kernel
theorem dX8_boreGoes_66 : decode cX8_boreGoes 66 = .ok (.iadd, 1) := by decide +kernel
theorem dX8_boreGoes_67 : decode cX8_boreGoes 67 = .ok (.iconst 1, 1) := by decide +kernel
theorem dX8_boreGoes_68 : decode cX8_boreGoes 68 = .ok (.iadd, 1) := by decide +kernel
theorem dX8_boreGoes_69 : decode cX8_boreGoes 69 = .ok (.iaload, 1) := by decide +kernel
theorem dX8_boreGoes_70 : decode cX8_boreGoes 70 = .ok (.iastore, 1) := by decide +kernel
theorem dX8_boreGoes_71 : decode cX8_boreGoes 71 = .ok (.iinc 2 1, 3) := by decide +kernel
theorem dX8_boreGoes_74 : decode cX8_boreGoes 74 = .ok (.goto (-34), 3) := by decide +kernel
theorem dX8_boreGoes_77 : decode cX8_boreGoes 77 = .ok (.return_, 1) := by decide +kernel
theorem dX8_takeShaft_0 : decode cX8_takeShaft 0 = .ok (.aload_n 0, 1) := by decide +kernel
theorem dX8_takeShaft_1 : decode cX8_takeShaft 1 = .ok (.iload_n 1, 1) := by decide +kernel
theorem dX8_takeShaft_2 : decode cX8_takeShaft 2 = .ok (.invokevirtual 122, 3) := by decide +kernel
theorem dX8_takeShaft_5 : decode cX8_takeShaft 5 = .ok (.ifCond .ne 6, 3) := by decide +kernel
theorem dX8_takeShaft_8 : decode cX8_takeShaft 8 = .ok (.ldc 128, 2) := by decide +kernel
theorem dX8_takeShaft_10 : decode cX8_takeShaft 10 = .ok (.ireturn, 1) := by decide +kernel
theorem dX8_takeShaft_11 : decode cX8_takeShaft 11 = .ok (.aload_n 0, 1) := by decide +kernel
theorem dX8_takeShaft_12 : decode cX8_takeShaft 12 = .ok (.invokevirtual 161, 3) := by decide +kernel
theorem dX8_takeShaft_15 : decode cX8_takeShaft 15 = .ok (.aload_n 0, 1) := by decide +kernel
theorem dX8_takeShaft_16 : decode cX8_takeShaft 16 = .ok (.getfield 7, 3) := by decide +kernel
theorem dX8_takeShaft_19 : decode cX8_takeShaft 19 = .ok (.bipush 33, 2) := by decide +kernel
theorem dX8_takeShaft_21 : decode cX8_takeShaft 21 = .ok (.iload_n 1, 1) := by decide +kernel
theorem dX8_takeShaft_22 : decode cX8_takeShaft 22 = .ok (.iadd, 1) := by decide +kernel
theorem dX8_takeShaft_23 : decode cX8_takeShaft 23 = .ok (.iaload, 1) := by decide +kernel
theorem dX8_takeShaft_24 : decode cX8_takeShaft 24 = .ok (.istore_n 2, 1) := by decide +kernel
theorem dX8_takeShaft_25 : decode cX8_takeShaft 25 = .ok (.aload_n 0, 1) := by decide +kernel
theorem dX8_takeShaft_26 : decode cX8_takeShaft 26 = .ok (.iload_n 1, 1) := by decide +kernel
theorem dX8_takeShaft_27 : decode cX8_takeShaft 27 = .ok (.invokevirtual 167, 3) := by decide +kernel
theorem dX8_takeShaft_30 : decode cX8_takeShaft 30 = .ok (.iload_n 2, 1) := by decide +kernel
theorem dX8_takeShaft_31 : decode cX8_takeShaft 31 = .ok (.ireturn, 1) := by decide +kernel
theorem dX8_takeBore_0 : decode cX8_takeBore 0 = .ok (.aload_n 0, 1) := by decide +kernel
theorem dX8_takeBore_1 : decode cX8_takeBore 1 = .ok (.iload_n 1, 1) := by decide +kernel
theorem dX8_takeBore_2 : decode cX8_takeBore 2 = .ok (.invokevirtual 136, 3) := by decide +kernel
theorem dX8_takeBore_5 : decode cX8_takeBore 5 = .ok (.ifCond .ne 6, 3) := by decide +kernel
theorem dX8_takeBore_8 : decode cX8_takeBore 8 = .ok (.ldc 128, 2) := by decide +kernel
theorem dX8_takeBore_10 : decode cX8_takeBore 10 = .ok (.ireturn, 1) := by decide +kernel
theorem dX8_takeBore_11 : decode cX8_takeBore 11 = .ok (.aload_n 0, 1) := by decide +kernel
theorem dX8_takeBore_12 : decode cX8_takeBore 12 = .ok (.invokevirtual 161, 3) := by decide +kernel
theorem dX8_takeBore_15 : decode cX8_takeBore 15 = .ok (.aload_n 0, 1) := by decide +kernel
theorem dX8_takeBore_16 : decode cX8_takeBore 16 = .ok (.getfield 7, 3) := by decide +kernel
theorem dX8_takeBore_19 : decode cX8_takeBore 19 = .ok (.bipush 58, 2) := by decide +kernel
theorem dX8_takeBore_21 : decode cX8_takeBore 21 = .ok (.iload_n 1, 1) := by decide +kernel
theorem dX8_takeBore_22 : decode cX8_takeBore 22 = .ok (.iadd, 1) := by decide +kernel
theorem dX8_takeBore_23 : decode cX8_takeBore 23 = .ok (.iaload, 1) := by decide +kernel
theorem dX8_takeBore_24 : decode cX8_takeBore 24 = .ok (.istore_n 2, 1) := by decide +kernel
theorem dX8_takeBore_25 : decode cX8_takeBore 25 = .ok (.aload_n 0, 1) := by decide +kernel
theorem dX8_takeBore_26 : decode cX8_takeBore 26 = .ok (.iload_n 1, 1) := by decide +kernel
theorem dX8_takeBore_27 : decode cX8_takeBore 27 = .ok (.invokevirtual 171, 3) := by decide +kernel
theorem dX8_takeBore_30 : decode cX8_takeBore 30 = .ok (.iload_n 2, 1) := by decide +kernel
theorem dX8_takeBore_31 : decode cX8_takeBore 31 = .ok (.ireturn, 1) := by decide +kernel
theorem dX8_grade_0 : decode cX8_grade 0 = .ok (.iload_n 1, 1) := by decide +kernel
theorem dX8_grade_1 : decode cX8_grade 1 = .ok (.invokestatic 142, 3) := by decide +kernel
theorem dX8_grade_4 : decode cX8_grade 4 = .ok (.ifCond .ne 6, 3) := by decide +kernel
theorem dX8_grade_7 : decode cX8_grade 7 = .ok (.ldc 128, 2) := by decide +kernel
theorem dX8_grade_9 : decode cX8_grade 9 = .ok (.ireturn, 1) := by decide +kernel
theorem dX8_grade_10 : decode cX8_grade 10 = .ok (.iload_n 2, 1) := by decide +kernel
theorem dX8_grade_11 : decode cX8_grade 11 = .ok (.i2l, 1) := by decide +kernel
theorem dX8_grade_12 : decode cX8_grade 12 = .ok (.lconst 0, 1) := by decide +kernel
theorem dX8_grade_13 : decode cX8_grade 13 = .ok (.ldc2_w 174, 3) := by decide +kernel
theorem dX8_grade_16 : decode cX8_grade 16 = .ok (.invokestatic 50, 3) := by decide +kernel
theorem dX8_grade_19 : decode cX8_grade 19 = .ok (.ifCond .eq 16, 3) := by decide +kernel
theorem dX8_grade_22 : decode cX8_grade 22 = .ok (.iload_n 3, 1) := by decide +kernel
theorem dX8_grade_23 : decode cX8_grade 23 = .ok (.i2l, 1) := by decide +kernel
theorem dX8_grade_24 : decode cX8_grade 24 = .ok (.iload_n 2, 1) := by decide +kernel
theorem dX8_grade_25 : decode cX8_grade 25 = .ok (.i2l, 1) := by decide +kernel
theorem dX8_grade_26 : decode cX8_grade 26 = .ok (.ldc2_w 174, 3) := by decide +kernel
theorem dX8_grade_29 : decode cX8_grade 29 = .ok (.invokestatic 50, 3) := by decide +kernel
theorem dX8_grade_32 : decode cX8_grade 32 = .ok (.ifCond .ne 6, 3) := by decide +kernel
theorem dX8_grade_35 : decode cX8_grade 35 = .ok (.ldc 118, 2) := by decide +kernel
theorem dX8_grade_37 : decode cX8_grade 37 = .ok (.ireturn, 1) := by decide +kernel
theorem dX8_grade_38 : decode cX8_grade 38 = .ok (.aload_n 0, 1) := by decide +kernel
theorem dX8_grade_39 : decode cX8_grade 39 = .ok (.invokevirtual 161, 3) := by decide +kernel
theorem dX8_grade_42 : decode cX8_grade 42 = .ok (.aload_n 0, 1) := by decide +kernel
theorem dX8_grade_43 : decode cX8_grade 43 = .ok (.getfield 7, 3) := by decide +kernel
theorem dX8_grade_46 : decode cX8_grade 46 = .ok (.iconst 0, 1) := by decide +kernel
theorem dX8_grade_47 : decode cX8_grade 47 = .ok (.iload_n 1, 1) := by decide +kernel
theorem dX8_grade_48 : decode cX8_grade 48 = .ok (.iadd, 1) := by decide +kernel
theorem dX8_grade_49 : decode cX8_grade 49 = .ok (.iload_n 2, 1) := by decide +kernel
theorem dX8_grade_50 : decode cX8_grade 50 = .ok (.iastore, 1) := by decide +kernel
theorem dX8_grade_51 : decode cX8_grade 51 = .ok (.aload_n 0, 1) := by decide +kernel
theorem dX8_grade_52 : decode cX8_grade 52 = .ok (.getfield 7, 3) := by decide +kernel
theorem dX8_grade_55 : decode cX8_grade 55 = .ok (.iconst 4, 1) := by decide +kernel
theorem dX8_grade_56 : decode cX8_grade 56 = .ok (.iload_n 1, 1) := by decide +kernel
theorem dX8_grade_57 : decode cX8_grade 57 = .ok (.iadd, 1) := by decide +kernel
theorem dX8_grade_58 : decode cX8_grade 58 = .ok (.iload_n 3, 1) := by decide +kernel
theorem dX8_grade_59 : decode cX8_grade 59 = .ok (.iastore, 1) := by decide +kernel
theorem dX8_grade_60 : decode cX8_grade 60 = .ok (.aload_n 0, 1) := by decide +kernel
theorem dX8_grade_61 : decode cX8_grade 61 = .ok (.invokevirtual 70, 3) := by decide +kernel
theorem dX8_grade_64 : decode cX8_grade 64 = .ok (.ireturn, 1) := by decide +kernel
theorem dX8_putAway_0 : decode cX8_putAway 0 = .ok (.aload_n 0, 1) := by decide +kernel
theorem dX8_putAway_1 : decode cX8_putAway 1 = .ok (.invokevirtual 70, 3) := by decide +kernel
theorem dX8_putAway_4 : decode cX8_putAway 4 = .ok (.istore_n 1, 1) := by decide +kernel
theorem dX8_putAway_5 : decode cX8_putAway 5 = .ok (.iload_n 1, 1) := by decide +kernel
theorem dX8_putAway_6 : decode cX8_putAway 6 = .ok (.ifCond .ne 6, 3) := by decide +kernel
theorem dX8_putAway_9 : decode cX8_putAway 9 = .ok (.ldc 176, 2) := by decide +kernel
theorem dX8_putAway_11 : decode cX8_putAway 11 = .ok (.ireturn, 1) := by decide +kernel
theorem dX8_putAway_12 : decode cX8_putAway 12 = .ok (.aload_n 0, 1) := by decide +kernel
theorem dX8_putAway_13 : decode cX8_putAway 13 = .ok (.invokevirtual 161, 3) := by decide +kernel
theorem dX8_putAway_16 : decode cX8_putAway 16 = .ok (.aload_n 0, 1) := by decide +kernel
theorem dX8_putAway_17 : decode cX8_putAway 17 = .ok (.getfield 7, 3) := by decide +kernel
theorem dX8_putAway_20 : decode cX8_putAway 20 = .ok (.bipush 8, 2) := by decide +kernel
theorem dX8_putAway_22 : decode cX8_putAway 22 = .ok (.iaload, 1) := by decide +kernel
theorem dX8_putAway_23 : decode cX8_putAway 23 = .ok (.iconst 1, 1) := by decide +kernel
theorem dX8_putAway_24 : decode cX8_putAway 24 = .ok (.isub, 1) := by decide +kernel
theorem dX8_putAway_25 : decode cX8_putAway 25 = .ok (.istore_n 2, 1) := by decide +kernel
theorem dX8_putAway_26 : decode cX8_putAway 26 = .ok (.iload_n 2, 1) := by decide +kernel
theorem dX8_putAway_27 : decode cX8_putAway 27 = .ok (.ifCond .lt 24, 3) := by decide +kernel
theorem dX8_putAway_30 : decode cX8_putAway 30 = .ok (.aload_n 0, 1) := by decide +kernel
theorem dX8_putAway_31 : decode cX8_putAway 31 = .ok (.getfield 20, 3) := by decide +kernel
theorem dX8_putAway_34 : decode cX8_putAway 34 = .ok (.iload_n 2, 1) := by decide +kernel
theorem dX8_putAway_35 : decode cX8_putAway 35 = .ok (.iaload, 1) := by decide +kernel
theorem dX8_putAway_36 : decode cX8_putAway 36 = .ok (.iconst (-1), 1) := by decide +kernel
theorem dX8_putAway_37 : decode cX8_putAway 37 = .ok (.if_icmp .eq 8, 3) := by decide +kernel
theorem dX8_putAway_40 : decode cX8_putAway 40 = .ok (.aload_n 0, 1) := by decide +kernel
theorem dX8_putAway_41 : decode cX8_putAway 41 = .ok (.iload_n 2, 1) := by decide +kernel
theorem dX8_putAway_42 : decode cX8_putAway 42 = .ok (.invokevirtual 167, 3) := by decide +kernel
theorem dX8_putAway_45 : decode cX8_putAway 45 = .ok (.iinc 2 (-1), 3) := by decide +kernel
theorem dX8_putAway_48 : decode cX8_putAway 48 = .ok (.goto (-22), 3) := by decide +kernel
theorem dX8_putAway_51 : decode cX8_putAway 51 = .ok (.aload_n 0, 1) := by decide +kernel
theorem dX8_putAway_52 : decode cX8_putAway 52 = .ok (.getfield 7, 3) := by decide +kernel
theorem dX8_putAway_55 : decode cX8_putAway 55 = .ok (.bipush 57, 2) := by decide +kernel
theorem dX8_putAway_57 : decode cX8_putAway 57 = .ok (.iaload, 1) := by decide +kernel
theorem dX8_putAway_58 : decode cX8_putAway 58 = .ok (.iconst 1, 1) := by decide +kernel
theorem dX8_putAway_59 : decode cX8_putAway 59 = .ok (.isub, 1) := by decide +kernel
theorem dX8_putAway_60 : decode cX8_putAway 60 = .ok (.istore_n 2, 1) := by decide +kernel
theorem dX8_putAway_61 : decode cX8_putAway 61 = .ok (.iload_n 2, 1) := by decide +kernel
theorem dX8_putAway_62 : decode cX8_putAway 62 = .ok (.ifCond .lt 24, 3) := by decide +kernel
theorem dX8_putAway_65 : decode cX8_putAway 65 = .ok (.aload_n 0, 1) := by decide +kernel
theorem dX8_putAway_66 : decode cX8_putAway 66 = .ok (.getfield 23, 3) := by decide +kernel
theorem dX8_putAway_69 : decode cX8_putAway 69 = .ok (.iload_n 2, 1) := by decide +kernel
theorem dX8_putAway_70 : decode cX8_putAway 70 = .ok (.iaload, 1) := by decide +kernel
theorem dX8_putAway_71 : decode cX8_putAway 71 = .ok (.iconst (-1), 1) := by decide +kernel
theorem dX8_putAway_72 : decode cX8_putAway 72 = .ok (.if_icmp .eq 8, 3) := by decide +kernel
theorem dX8_putAway_75 : decode cX8_putAway 75 = .ok (.aload_n 0, 1) := by decide +kernel
theorem dX8_putAway_76 : decode cX8_putAway 76 = .ok (.iload_n 2, 1) := by decide +kernel
theorem dX8_putAway_77 : decode cX8_putAway 77 = .ok (.invokevirtual 171, 3) := by decide +kernel
theorem dX8_putAway_80 : decode cX8_putAway 80 = .ok (.iinc 2 (-1), 3) := by decide +kernel
theorem dX8_putAway_83 : decode cX8_putAway 83 = .ok (.goto (-22), 3) := by decide +kernel
theorem dX8_putAway_86 : decode cX8_putAway 86 = .ok (.iload_n 1, 1) := by decide +kernel
theorem dX8_putAway_87 : decode cX8_putAway 87 = .ok (.ireturn, 1) := by decide +kernel
theorem dX8_draw_0 : decode cX8_draw 0 = .ok (.aload_n 0, 1) := by decide +kernel
theorem dX8_draw_1 : decode cX8_draw 1 = .ok (.aload_n 0, 1) := by decide +kernel
theorem dX8_draw_2 : decode cX8_draw 2 = .ok (.getfield 44, 3) := by decide +kernel
theorem dX8_draw_5 : decode cX8_draw 5 = .ok (.i2l, 1) := by decide +kernel
theorem dX8_draw_6 : decode cX8_draw 6 = .ok (.ldc2_w 177, 3) := by decide +kernel
theorem dX8_draw_9 : decode cX8_draw 9 = .ok (.lmul, 1) := by decide +kernel
theorem dX8_draw_10 : decode cX8_draw 10 = .ok (.ldc2_w 179, 3) := by decide +kernel
theorem dX8_draw_13 : decode cX8_draw 13 = .ok (.ladd, 1) := by decide +kernel
theorem dX8_draw_14 : decode cX8_draw 14 = .ok (.ldc2_w 181, 3) := by decide +kernel
theorem dX8_draw_17 : decode cX8_draw 17 = .ok (.lrem, 1) := by decide +kernel
theorem dX8_draw_18 : decode cX8_draw 18 = .ok (.l2i, 1) := by decide +kernel
theorem dX8_draw_19 : decode cX8_draw 19 = .ok (.putfield 44, 3) := by decide +kernel
theorem dX8_draw_22 : decode cX8_draw 22 = .ok (.aload_n 0, 1) := by decide +kernel
theorem dX8_draw_23 : decode cX8_draw 23 = .ok (.getfield 44, 3) := by decide +kernel
theorem dX8_draw_26 : decode cX8_draw 26 = .ok (.ldc 183, 2) := by decide +kernel
theorem dX8_draw_28 : decode cX8_draw 28 = .ok (.idiv, 1) := by decide +kernel
theorem dX8_draw_29 : decode cX8_draw 29 = .ok (.iload_n 1, 1) := by decide +kernel
theorem dX8_draw_30 : decode cX8_draw 30 = .ok (.irem, 1) := by decide +kernel
theorem dX8_draw_31 : decode cX8_draw 31 = .ok (.ireturn, 1) := by decide +kernel
theorem dX8_batch_0 : decode cX8_batch 0 = .ok (.iload_n 1, 1) := by decide +kernel
theorem dX8_batch_1 : decode cX8_batch 1 = .ok (.i2l, 1) := by decide +kernel
theorem dX8_batch_2 : decode cX8_batch 2 = .ok (.lconst 1, 1) := by decide +kernel
theorem dX8_batch_3 : decode cX8_batch 3 = .ok (.ldc2_w 184, 3) := by decide +kernel
theorem dX8_batch_6 : decode cX8_batch 6 = .ok (.invokestatic 50, 3) := by decide +kernel
theorem dX8_batch_9 : decode cX8_batch 9 = .ok (.ifCond .ne 6, 3) := by decide +kernel
theorem dX8_batch_12 : decode cX8_batch 12 = .ok (.ldc 118, 2) := by decide +kernel
theorem dX8_batch_14 : decode cX8_batch 14 = .ok (.ireturn, 1) := by decide +kernel
theorem dX8_batch_15 : decode cX8_batch 15 = .ok (.aload_n 0, 1) := by decide +kernel
theorem dX8_batch_16 : decode cX8_batch 16 = .ok (.invokevirtual 161, 3) := by decide +kernel
theorem dX8_batch_19 : decode cX8_batch 19 = .ok (.iconst 0, 1) := by decide +kernel
theorem dX8_batch_20 : decode cX8_batch 20 = .ok (.istore_n 2, 1) := by decide +kernel
theorem dX8_batch_21 : decode cX8_batch 21 = .ok (.iconst 0, 1) := by decide +kernel
theorem dX8_batch_22 : decode cX8_batch 22 = .ok (.istore_n 3, 1) := by decide +kernel
theorem dX8_batch_23 : decode cX8_batch 23 = .ok (.iload_n 3, 1) := by decide +kernel
theorem dX8_batch_24 : decode cX8_batch 24 = .ok (.iload_n 1, 1) := by decide +kernel
theorem dX8_batch_25 : decode cX8_batch 25 = .ok (.if_icmp .ge 50, 3) := by decide +kernel
theorem dX8_batch_28 : decode cX8_batch 28 = .ok (.aload_n 0, 1) := by decide +kernel
theorem dX8_batch_29 : decode cX8_batch 29 = .ok (.iconst 5, 1) := by decide +kernel
theorem dX8_batch_30 : decode cX8_batch 30 = .ok (.invokevirtual 186, 3) := by decide +kernel
theorem dX8_batch_33 : decode cX8_batch 33 = .ok (.istore 4, 2) := by decide +kernel
theorem dX8_batch_35 : decode cX8_batch 35 = .ok (.sipush 1000, 3) := by decide +kernel
theorem dX8_batch_38 : decode cX8_batch 38 = .ok (.aload_n 0, 1) := by decide +kernel
theorem dX8_batch_39 : decode cX8_batch 39 = .ok (.bipush 100, 2) := by decide +kernel
theorem dX8_batch_41 : decode cX8_batch 41 = .ok (.invokevirtual 186, 3) := by decide +kernel
theorem dX8_batch_44 : decode cX8_batch 44 = .ok (.iadd, 1) := by decide +kernel
theorem dX8_batch_45 : decode cX8_batch 45 = .ok (.istore 5, 2) := by decide +kernel
theorem dX8_batch_47 : decode cX8_batch 47 = .ok (.aload_n 0, 1) := by decide +kernel
theorem dX8_batch_48 : decode cX8_batch 48 = .ok (.iload 4, 2) := by decide +kernel
theorem dX8_batch_50 : decode cX8_batch 50 = .ok (.iload 5, 2) := by decide +kernel
theorem dX8_batch_52 : decode cX8_batch 52 = .ok (.invokevirtual 157, 3) := by decide +kernel
theorem dX8_batch_55 : decode cX8_batch 55 = .ok (.ifCond .eq 14, 3) := by decide +kernel
theorem dX8_batch_58 : decode cX8_batch 58 = .ok (.aload_n 0, 1) := by decide +kernel
theorem dX8_batch_59 : decode cX8_batch 59 = .ok (.iload 4, 2) := by decide +kernel
theorem dX8_batch_61 : decode cX8_batch 61 = .ok (.iload 5, 2) := by decide +kernel
theorem dX8_batch_63 : decode cX8_batch 63 = .ok (.invokevirtual 164, 3) := by decide +kernel
theorem dX8_batch_66 : decode cX8_batch 66 = .ok (.iinc 2 1, 3) := by decide +kernel
theorem dX8_batch_69 : decode cX8_batch 69 = .ok (.iinc 3 1, 3) := by decide +kernel
theorem dX8_batch_72 : decode cX8_batch 72 = .ok (.goto (-49), 3) := by decide +kernel
theorem dX8_batch_75 : decode cX8_batch 75 = .ok (.iload_n 2, 1) := by decide +kernel
theorem dX8_batch_76 : decode cX8_batch 76 = .ok (.ireturn, 1) := by decide +kernel
theorem dX8_clear_0 : decode cX8_clear 0 = .ok (.aload_n 0, 1) := by decide +kernel
theorem dX8_clear_1 : decode cX8_clear 1 = .ok (.invokevirtual 161, 3) := by decide +kernel
theorem dX8_clear_4 : decode cX8_clear 4 = .ok (.aload_n 0, 1) := by decide +kernel
theorem dX8_clear_5 : decode cX8_clear 5 = .ok (.getfield 7, 3) := by decide +kernel
theorem dX8_clear_8 : decode cX8_clear 8 = .ok (.bipush 8, 2) := by decide +kernel
theorem dX8_clear_10 : decode cX8_clear 10 = .ok (.iaload, 1) := by decide +kernel
theorem dX8_clear_11 : decode cX8_clear 11 = .ok (.aload_n 0, 1) := by decide +kernel
theorem dX8_clear_12 : decode cX8_clear 12 = .ok (.getfield 7, 3) := by decide +kernel
theorem dX8_clear_15 : decode cX8_clear 15 = .ok (.bipush 57, 2) := by decide +kernel
theorem dX8_clear_17 : decode cX8_clear 17 = .ok (.iaload, 1) := by decide +kernel
theorem dX8_clear_18 : decode cX8_clear 18 = .ok (.iadd, 1) := by decide +kernel
theorem dX8_clear_19 : decode cX8_clear 19 = .ok (.istore_n 1, 1) := by decide +kernel
theorem dX8_clear_20 : decode cX8_clear 20 = .ok (.aload_n 0, 1) := by decide +kernel
theorem dX8_clear_21 : decode cX8_clear 21 = .ok (.getfield 7, 3) := by decide +kernel
theorem dX8_clear_24 : decode cX8_clear 24 = .ok (.bipush 8, 2) := by decide +kernel
theorem dX8_clear_26 : decode cX8_clear 26 = .ok (.iconst 0, 1) := by decide +kernel
theorem dX8_clear_27 : decode cX8_clear 27 = .ok (.iastore, 1) := by decide +kernel
theorem dX8_clear_28 : decode cX8_clear 28 = .ok (.aload_n 0, 1) := by decide +kernel
theorem dX8_clear_29 : decode cX8_clear 29 = .ok (.getfield 7, 3) := by decide +kernel
theorem dX8_clear_32 : decode cX8_clear 32 = .ok (.bipush 57, 2) := by decide +kernel
theorem dX8_clear_34 : decode cX8_clear 34 = .ok (.iconst 0, 1) := by decide +kernel
theorem dX8_clear_35 : decode cX8_clear 35 = .ok (.iastore, 1) := by decide +kernel
theorem dX8_clear_36 : decode cX8_clear 36 = .ok (.aload_n 0, 1) := by decide +kernel
theorem dX8_clear_37 : decode cX8_clear 37 = .ok (.getfield 7, 3) := by decide +kernel
theorem dX8_clear_40 : decode cX8_clear 40 = .ok (.bipush 82, 2) := by decide +kernel
theorem dX8_clear_42 : decode cX8_clear 42 = .ok (.iconst 0, 1) := by decide +kernel
theorem dX8_clear_43 : decode cX8_clear 43 = .ok (.iastore, 1) := by decide +kernel
theorem dX8_clear_44 : decode cX8_clear 44 = .ok (.iload_n 1, 1) := by decide +kernel
theorem dX8_clear_45 : decode cX8_clear 45 = .ok (.ireturn, 1) := by decide +kernel
theorem dX8_undo_0 : decode cX8_undo 0 = .ok (.iload_n 1, 1) := by decide +kernel
theorem dX8_undo_1 : decode cX8_undo 1 = .ok (.i2l, 1) := by decide +kernel
theorem dX8_undo_2 : decode cX8_undo 2 = .ok (.lconst 1, 1) := by decide +kernel
theorem dX8_undo_3 : decode cX8_undo 3 = .ok (.ldc2_w 189, 3) := by decide +kernel
theorem dX8_undo_6 : decode cX8_undo 6 = .ok (.invokestatic 50, 3) := by decide +kernel
theorem dX8_undo_9 : decode cX8_undo 9 = .ok (.ifCond .ne 6, 3) := by decide +kernel
theorem dX8_undo_12 : decode cX8_undo 12 = .ok (.ldc 118, 2) := by decide +kernel
theorem dX8_undo_14 : decode cX8_undo 14 = .ok (.ireturn, 1) := by decide +kernel
theorem dX8_undo_15 : decode cX8_undo 15 = .ok (.iload_n 1, 1) := by decide +kernel
theorem dX8_undo_16 : decode cX8_undo 16 = .ok (.aload_n 0, 1) := by decide +kernel
theorem dX8_undo_17 : decode cX8_undo 17 = .ok (.getfield 115, 3) := by decide +kernel
theorem dX8_undo_20 : decode cX8_undo 20 = .ok (.if_icmp .le 6, 3) := by decide +kernel
theorem dX8_undo_23 : decode cX8_undo 23 = .ok (.ldc 176, 2) := by decide +kernel
theorem dX8_undo_25 : decode cX8_undo 25 = .ok (.ireturn, 1) := by decide +kernel
theorem dX8_undo_26 : decode cX8_undo 26 = .ok (.aload_n 0, 1) := by decide +kernel
theorem dX8_undo_27 : decode cX8_undo 27 = .ok (.dup, 1) := by decide +kernel
theorem dX8_undo_28 : decode cX8_undo 28 = .ok (.getfield 115, 3) := by decide +kernel
theorem dX8_undo_31 : decode cX8_undo 31 = .ok (.iload_n 1, 1) := by decide +kernel
theorem dX8_undo_32 : decode cX8_undo 32 = .ok (.isub, 1) := by decide +kernel
theorem dX8_undo_33 : decode cX8_undo 33 = .ok (.putfield 115, 3) := by decide +kernel
theorem dX8_undo_36 : decode cX8_undo 36 = .ok (.aload_n 0, 1) := by decide +kernel
theorem dX8_undo_37 : decode cX8_undo 37 = .ok (.sipush 825, 3) := by decide +kernel
theorem dX8_undo_40 : decode cX8_undo 40 = .ok (.sipush 275, 3) := by decide +kernel
theorem dX8_undo_43 : decode cX8_undo 43 = .ok (.aload_n 0, 1) := by decide +kernel
theorem dX8_undo_44 : decode cX8_undo 44 = .ok (.getfield 115, 3) := by decide +kernel
theorem dX8_undo_47 : decode cX8_undo 47 = .ok (.imul, 1) := by decide +kernel
theorem dX8_undo_48 : decode cX8_undo 48 = .ok (.iadd, 1) := by decide +kernel
theorem dX8_undo_49 : decode cX8_undo 49 = .ok (.iconst 0, 1) := by decide +kernel
theorem dX8_undo_50 : decode cX8_undo 50 = .ok (.invokevirtual 150, 3) := by decide +kernel
theorem dX8_undo_53 : decode cX8_undo 53 = .ok (.aload_n 0, 1) := by decide +kernel
theorem dX8_undo_54 : decode cX8_undo 54 = .ok (.getfield 7, 3) := by decide +kernel
theorem dX8_undo_57 : decode cX8_undo 57 = .ok (.bipush 8, 2) := by decide +kernel
theorem dX8_undo_59 : decode cX8_undo 59 = .ok (.iaload, 1) := by decide +kernel
theorem dX8_undo_60 : decode cX8_undo 60 = .ok (.aload_n 0, 1) := by decide +kernel
theorem dX8_undo_61 : decode cX8_undo 61 = .ok (.getfield 7, 3) := by decide +kernel
theorem dX8_undo_64 : decode cX8_undo 64 = .ok (.bipush 57, 2) := by decide +kernel
theorem dX8_undo_66 : decode cX8_undo 66 = .ok (.iaload, 1) := by decide +kernel
theorem dX8_undo_67 : decode cX8_undo 67 = .ok (.iadd, 1) := by decide +kernel
theorem dX8_undo_68 : decode cX8_undo 68 = .ok (.ireturn, 1) := by decide +kernel
theorem dX8_shaftsWithin_0 : decode cX8_shaftsWithin 0 = .ok (.iconst 0, 1) := by decide +kernel
theorem dX8_shaftsWithin_1 : decode cX8_shaftsWithin 1 = .ok (.istore_n 3, 1) := by decide +kernel
theorem dX8_shaftsWithin_2 : decode cX8_shaftsWithin 2 = .ok (.iconst 0, 1) := by decide +kernel
theorem dX8_shaftsWithin_3 : decode cX8_shaftsWithin 3 = .ok (.istore 4, 2) := by decide +kernel
theorem dX8_shaftsWithin_5 : decode cX8_shaftsWithin 5 = .ok (.iload 4, 2) := by decide +kernel
theorem dX8_shaftsWithin_7 : decode cX8_shaftsWithin 7 = .ok (.aload_n 0, 1) := by decide +kernel
theorem dX8_shaftsWithin_8 : decode cX8_shaftsWithin 8 = .ok (.getfield 7, 3) := by decide +kernel
theorem dX8_shaftsWithin_11 : decode cX8_shaftsWithin 11 = .ok (.bipush 8, 2) := by decide +kernel
theorem dX8_shaftsWithin_13 : decode cX8_shaftsWithin 13 = .ok (.iaload, 1) := by decide +kernel
theorem dX8_shaftsWithin_14 : decode cX8_shaftsWithin 14 = .ok (.if_icmp .ge 37, 3) := by decide +kernel
theorem dX8_shaftsWithin_17 : decode cX8_shaftsWithin 17 = .ok (.iload_n 3, 1) := by decide +kernel
theorem dX8_shaftsWithin_18 : decode cX8_shaftsWithin 18 = .ok (.aload_n 0, 1) := by decide +kernel
theorem dX8_shaftsWithin_19 : decode cX8_shaftsWithin 19 = .ok (.iload 4, 2) := by decide +kernel
theorem dX8_shaftsWithin_21 : decode cX8_shaftsWithin 21 = .ok (.invokevirtual 56, 3) := by decide +kernel
theorem dX8_shaftsWithin_24 : decode cX8_shaftsWithin 24 = .ok (.iload_n 1, 1) := by decide +kernel
theorem dX8_shaftsWithin_25 : decode cX8_shaftsWithin 25 = .ok (.if_icmp .lt 17, 3) := by decide +kernel
theorem dX8_shaftsWithin_28 : decode cX8_shaftsWithin 28 = .ok (.aload_n 0, 1) := by decide +kernel
theorem dX8_shaftsWithin_29 : decode cX8_shaftsWithin 29 = .ok (.iload 4, 2) := by decide +kernel
theorem dX8_shaftsWithin_31 : decode cX8_shaftsWithin 31 = .ok (.invokevirtual 60, 3) := by decide +kernel
theorem dX8_shaftsWithin_34 : decode cX8_shaftsWithin 34 = .ok (.iload_n 2, 1) := by decide +kernel
theorem dX8_shaftsWithin_35 : decode cX8_shaftsWithin 35 = .ok (.if_icmp .gt 7, 3) := by decide +kernel
theorem dX8_shaftsWithin_38 : decode cX8_shaftsWithin 38 = .ok (.iconst 1, 1) := by decide +kernel
theorem dX8_shaftsWithin_39 : decode cX8_shaftsWithin 39 = .ok (.goto 4, 3) := by decide +kernel
theorem dX8_shaftsWithin_42 : decode cX8_shaftsWithin 42 = .ok (.iconst 0, 1) := by decide +kernel
theorem dX8_shaftsWithin_43 : decode cX8_shaftsWithin 43 = .ok (.iadd, 1) := by decide +kernel
theorem dX8_shaftsWithin_44 : decode cX8_shaftsWithin 44 = .ok (.istore_n 3, 1) := by decide +kernel
theorem dX8_shaftsWithin_45 : decode cX8_shaftsWithin 45 = .ok (.iinc 4 1, 3) := by decide +kernel
theorem dX8_shaftsWithin_48 : decode cX8_shaftsWithin 48 = .ok (.goto (-43), 3) := by decide +kernel
theorem dX8_shaftsWithin_51 : decode cX8_shaftsWithin 51 = .ok (.iload_n 3, 1) := by decide +kernel
theorem dX8_shaftsWithin_52 : decode cX8_shaftsWithin 52 = .ok (.ireturn, 1) := by decide +kernel
theorem dX8_boresWithin_0 : decode cX8_boresWithin 0 = .ok (.iconst 0, 1) := by decide +kernel
theorem dX8_boresWithin_1 : decode cX8_boresWithin 1 = .ok (.istore_n 3, 1) := by decide +kernel
theorem dX8_boresWithin_2 : decode cX8_boresWithin 2 = .ok (.iconst 0, 1) := by decide +kernel
theorem dX8_boresWithin_3 : decode cX8_boresWithin 3 = .ok (.istore 4, 2) := by decide +kernel
theorem dX8_boresWithin_5 : decode cX8_boresWithin 5 = .ok (.iload 4, 2) := by decide +kernel
theorem dX8_boresWithin_7 : decode cX8_boresWithin 7 = .ok (.aload_n 0, 1) := by decide +kernel
theorem dX8_boresWithin_8 : decode cX8_boresWithin 8 = .ok (.getfield 7, 3) := by decide +kernel
theorem dX8_boresWithin_11 : decode cX8_boresWithin 11 = .ok (.bipush 57, 2) := by decide +kernel
theorem dX8_boresWithin_13 : decode cX8_boresWithin 13 = .ok (.iaload, 1) := by decide +kernel
theorem dX8_boresWithin_14 : decode cX8_boresWithin 14 = .ok (.if_icmp .ge 38, 3) := by decide +kernel
theorem dX8_boresWithin_17 : decode cX8_boresWithin 17 = .ok (.iload_n 3, 1) := by decide +kernel
theorem dX8_boresWithin_18 : decode cX8_boresWithin 18 = .ok (.aload_n 0, 1) := by decide +kernel
theorem dX8_boresWithin_19 : decode cX8_boresWithin 19 = .ok (.getfield 7, 3) := by decide +kernel
theorem dX8_boresWithin_22 : decode cX8_boresWithin 22 = .ok (.bipush 58, 2) := by decide +kernel
theorem dX8_boresWithin_24 : decode cX8_boresWithin 24 = .ok (.iload 4, 2) := by decide +kernel
theorem dX8_boresWithin_26 : decode cX8_boresWithin 26 = .ok (.iadd, 1) := by decide +kernel
theorem dX8_boresWithin_27 : decode cX8_boresWithin 27 = .ok (.iaload, 1) := by decide +kernel
theorem dX8_boresWithin_28 : decode cX8_boresWithin 28 = .ok (.i2l, 1) := by decide +kernel
theorem dX8_boresWithin_29 : decode cX8_boresWithin 29 = .ok (.iload_n 1, 1) := by decide +kernel
theorem dX8_boresWithin_30 : decode cX8_boresWithin 30 = .ok (.i2l, 1) := by decide +kernel
theorem dX8_boresWithin_31 : decode cX8_boresWithin 31 = .ok (.iload_n 2, 1) := by decide +kernel
theorem dX8_boresWithin_32 : decode cX8_boresWithin 32 = .ok (.i2l, 1) := by decide +kernel
theorem dX8_boresWithin_33 : decode cX8_boresWithin 33 = .ok (.invokestatic 50, 3) := by decide +kernel
theorem dX8_boresWithin_36 : decode cX8_boresWithin 36 = .ok (.ifCond .eq 7, 3) := by decide +kernel
theorem dX8_boresWithin_39 : decode cX8_boresWithin 39 = .ok (.iconst 1, 1) := by decide +kernel
theorem dX8_boresWithin_40 : decode cX8_boresWithin 40 = .ok (.goto 4, 3) := by decide +kernel
theorem dX8_boresWithin_43 : decode cX8_boresWithin 43 = .ok (.iconst 0, 1) := by decide +kernel
theorem dX8_boresWithin_44 : decode cX8_boresWithin 44 = .ok (.iadd, 1) := by decide +kernel
theorem dX8_boresWithin_45 : decode cX8_boresWithin 45 = .ok (.istore_n 3, 1) := by decide +kernel
theorem dX8_boresWithin_46 : decode cX8_boresWithin 46 = .ok (.iinc 4 1, 3) := by decide +kernel
theorem dX8_boresWithin_49 : decode cX8_boresWithin 49 = .ok (.goto (-44), 3) := by decide +kernel
theorem dX8_boresWithin_52 : decode cX8_boresWithin 52 = .ok (.iload_n 3, 1) := by decide +kernel
theorem dX8_boresWithin_53 : decode cX8_boresWithin 53 = .ok (.ireturn, 1) := by decide +kernel
theorem dX8_crowd_0 : decode cX8_crowd 0 = .ok (.iload_n 1, 1) := by decide +kernel
theorem dX8_crowd_1 : decode cX8_crowd 1 = .ok (.i2l, 1) := by decide +kernel
theorem dX8_crowd_2 : decode cX8_crowd 2 = .ok (.lconst 0, 1) := by decide +kernel
theorem dX8_crowd_3 : decode cX8_crowd 3 = .ok (.ldc2_w 48, 3) := by decide +kernel
theorem dX8_crowd_6 : decode cX8_crowd 6 = .ok (.invokestatic 50, 3) := by decide +kernel
theorem dX8_crowd_9 : decode cX8_crowd 9 = .ok (.ifCond .ne 6, 3) := by decide +kernel
theorem dX8_crowd_12 : decode cX8_crowd 12 = .ok (.ldc 118, 2) := by decide +kernel
theorem dX8_crowd_14 : decode cX8_crowd 14 = .ok (.ireturn, 1) := by decide +kernel
theorem dX8_crowd_15 : decode cX8_crowd 15 = .ok (.iconst 0, 1) := by decide +kernel
theorem dX8_crowd_16 : decode cX8_crowd 16 = .ok (.istore_n 2, 1) := by decide +kernel
theorem dX8_crowd_17 : decode cX8_crowd 17 = .ok (.iconst (-1), 1) := by decide +kernel
theorem dX8_crowd_18 : decode cX8_crowd 18 = .ok (.istore_n 3, 1) := by decide +kernel
theorem dX8_crowd_19 : decode cX8_crowd 19 = .ok (.iconst (-1), 1) := by decide +kernel
theorem dX8_crowd_20 : decode cX8_crowd 20 = .ok (.istore 4, 2) := by decide +kernel
theorem dX8_crowd_22 : decode cX8_crowd 22 = .ok (.iconst 0, 1) := by decide +kernel
theorem dX8_crowd_23 : decode cX8_crowd 23 = .ok (.istore 5, 2) := by decide +kernel
theorem dX8_crowd_25 : decode cX8_crowd 25 = .ok (.iload 5, 2) := by decide +kernel
theorem dX8_crowd_27 : decode cX8_crowd 27 = .ok (.aload_n 0, 1) := by decide +kernel
theorem dX8_crowd_28 : decode cX8_crowd 28 = .ok (.getfield 7, 3) := by decide +kernel
theorem dX8_crowd_31 : decode cX8_crowd 31 = .ok (.bipush 8, 2) := by decide +kernel
theorem dX8_crowd_33 : decode cX8_crowd 33 = .ok (.iaload, 1) := by decide +kernel
theorem dX8_crowd_34 : decode cX8_crowd 34 = .ok (.if_icmp .ge 146, 3) := by decide +kernel
theorem dX8_crowd_37 : decode cX8_crowd 37 = .ok (.iconst 0, 1) := by decide +kernel
theorem dX8_crowd_38 : decode cX8_crowd 38 = .ok (.istore 6, 2) := by decide +kernel
theorem dX8_crowd_40 : decode cX8_crowd 40 = .ok (.iload 6, 2) := by decide +kernel
theorem dX8_crowd_42 : decode cX8_crowd 42 = .ok (.aload_n 0, 1) := by decide +kernel
theorem dX8_crowd_43 : decode cX8_crowd 43 = .ok (.getfield 7, 3) := by decide +kernel
theorem dX8_crowd_46 : decode cX8_crowd 46 = .ok (.bipush 8, 2) := by decide +kernel
theorem dX8_crowd_48 : decode cX8_crowd 48 = .ok (.iaload, 1) := by decide +kernel
theorem dX8_crowd_49 : decode cX8_crowd 49 = .ok (.if_icmp .ge 125, 3) := by decide +kernel
theorem dX8_crowd_52 : decode cX8_crowd 52 = .ok (.aload_n 0, 1) := by decide +kernel
theorem dX8_crowd_53 : decode cX8_crowd 53 = .ok (.iload 5, 2) := by decide +kernel
theorem dX8_crowd_55 : decode cX8_crowd 55 = .ok (.invokevirtual 56, 3) := by decide +kernel
theorem dX8_crowd_58 : decode cX8_crowd 58 = .ok (.istore 7, 2) := by decide +kernel
theorem dX8_crowd_60 : decode cX8_crowd 60 = .ok (.aload_n 0, 1) := by decide +kernel
theorem dX8_crowd_61 : decode cX8_crowd 61 = .ok (.iload 6, 2) := by decide +kernel
theorem dX8_crowd_63 : decode cX8_crowd 63 = .ok (.invokevirtual 60, 3) := by decide +kernel
theorem dX8_crowd_66 : decode cX8_crowd 66 = .ok (.istore 8, 2) := by decide +kernel
theorem dX8_crowd_68 : decode cX8_crowd 68 = .ok (.aload_n 0, 1) := by decide +kernel
theorem dX8_crowd_69 : decode cX8_crowd 69 = .ok (.iload 7, 2) := by decide +kernel
theorem dX8_crowd_71 : decode cX8_crowd 71 = .ok (.iload 8, 2) := by decide +kernel
theorem dX8_crowd_73 : decode cX8_crowd 73 = .ok (.invokevirtual 191, 3) := by decide +kernel
theorem dX8_crowd_76 : decode cX8_crowd 76 = .ok (.aload_n 0, 1) := by decide +kernel
theorem dX8_crowd_77 : decode cX8_crowd 77 = .ok (.iload 7, 2) := by decide +kernel
theorem dX8_crowd_79 : decode cX8_crowd 79 = .ok (.iload 8, 2) := by decide +kernel
theorem dX8_crowd_81 : decode cX8_crowd 81 = .ok (.invokevirtual 194, 3) := by decide +kernel
theorem dX8_crowd_84 : decode cX8_crowd 84 = .ok (.isub, 1) := by decide +kernel
theorem dX8_crowd_85 : decode cX8_crowd 85 = .ok (.istore 9, 2) := by decide +kernel
theorem dX8_crowd_87 : decode cX8_crowd 87 = .ok (.iload 9, 2) := by decide +kernel
theorem dX8_crowd_89 : decode cX8_crowd 89 = .ok (.iload_n 2, 1) := by decide +kernel
theorem dX8_crowd_90 : decode cX8_crowd 90 = .ok (.if_icmp .gt 33, 3) := by decide +kernel
theorem dX8_crowd_93 : decode cX8_crowd 93 = .ok (.iload 9, 2) := by decide +kernel
theorem dX8_crowd_95 : decode cX8_crowd 95 = .ok (.iload_n 2, 1) := by decide +kernel
theorem dX8_crowd_96 : decode cX8_crowd 96 = .ok (.if_icmp .ne 31, 3) := by decide +kernel
theorem dX8_crowd_99 : decode cX8_crowd 99 = .ok (.iload 9, 2) := by decide +kernel
theorem dX8_crowd_101 : decode cX8_crowd 101 = .ok (.ifCond .le 26, 3) := by decide +kernel
theorem dX8_crowd_104 : decode cX8_crowd 104 = .ok (.iload 7, 2) := by decide +kernel
theorem dX8_crowd_106 : decode cX8_crowd 106 = .ok (.iload_n 3, 1) := by decide +kernel
theorem dX8_crowd_107 : decode cX8_crowd 107 = .ok (.if_icmp .lt 16, 3) := by decide +kernel
theorem dX8_crowd_110 : decode cX8_crowd 110 = .ok (.iload 7, 2) := by decide +kernel
theorem dX8_crowd_112 : decode cX8_crowd 112 = .ok (.iload_n 3, 1) := by decide +kernel
theorem dX8_crowd_113 : decode cX8_crowd 113 = .ok (.if_icmp .ne 14, 3) := by decide +kernel
theorem dX8_crowd_116 : decode cX8_crowd 116 = .ok (.iload 8, 2) := by decide +kernel
theorem dX8_crowd_118 : decode cX8_crowd 118 = .ok (.iload 4, 2) := by decide +kernel
theorem dX8_crowd_120 : decode cX8_crowd 120 = .ok (.if_icmp .ge 7, 3) := by decide +kernel
theorem dX8_crowd_123 : decode cX8_crowd 123 = .ok (.iconst 1, 1) := by decide +kernel
theorem dX8_crowd_124 : decode cX8_crowd 124 = .ok (.goto 4, 3) := by decide +kernel
theorem dX8_crowd_127 : decode cX8_crowd 127 = .ok (.iconst 0, 1) := by decide +kernel
theorem dX8_crowd_128 : decode cX8_crowd 128 = .ok (.istore 10, 2) := by decide +kernel
theorem dX8_crowd_130 : decode cX8_crowd 130 = .ok (.iload 10, 2) := by decide +kernel
theorem dX8_crowd_132 : decode cX8_crowd 132 = .ok (.ifCond .eq 8, 3) := by decide +kernel
theorem dX8_crowd_135 : decode cX8_crowd 135 = .ok (.iload 9, 2) := by decide +kernel
theorem dX8_crowd_137 : decode cX8_crowd 137 = .ok (.goto 4, 3) := by decide +kernel
theorem dX8_crowd_140 : decode cX8_crowd 140 = .ok (.iload_n 2, 1) := by decide +kernel
theorem dX8_crowd_141 : decode cX8_crowd 141 = .ok (.istore_n 2, 1) := by decide +kernel
theorem dX8_crowd_142 : decode cX8_crowd 142 = .ok (.iload 10, 2) := by decide +kernel
theorem dX8_crowd_144 : decode cX8_crowd 144 = .ok (.ifCond .eq 8, 3) := by decide +kernel
theorem dX8_crowd_147 : decode cX8_crowd 147 = .ok (.iload 7, 2) := by decide +kernel
theorem dX8_crowd_149 : decode cX8_crowd 149 = .ok (.goto 4, 3) := by decide +kernel
theorem dX8_crowd_152 : decode cX8_crowd 152 = .ok (.iload_n 3, 1) := by decide +kernel
theorem dX8_crowd_153 : decode cX8_crowd 153 = .ok (.istore_n 3, 1) := by decide +kernel
theorem dX8_crowd_154 : decode cX8_crowd 154 = .ok (.iload 10, 2) := by decide +kernel
theorem dX8_crowd_156 : decode cX8_crowd 156 = .ok (.ifCond .eq 8, 3) := by decide +kernel
theorem dX8_crowd_159 : decode cX8_crowd 159 = .ok (.iload 8, 2) := by decide +kernel
theorem dX8_crowd_161 : decode cX8_crowd 161 = .ok (.goto 5, 3) := by decide +kernel
theorem dX8_crowd_164 : decode cX8_crowd 164 = .ok (.iload 4, 2) := by decide +kernel
theorem dX8_crowd_166 : decode cX8_crowd 166 = .ok (.istore 4, 2) := by decide +kernel
theorem dX8_crowd_168 : decode cX8_crowd 168 = .ok (.iinc 6 1, 3) := by decide +kernel
theorem dX8_crowd_171 : decode cX8_crowd 171 = .ok (.goto (-131), 3) := by decide +kernel
theorem dX8_crowd_174 : decode cX8_crowd 174 = .ok (.iinc 5 1, 3) := by decide +kernel
theorem dX8_crowd_177 : decode cX8_crowd 177 = .ok (.goto (-152), 3) := by decide +kernel
theorem dX8_crowd_180 : decode cX8_crowd 180 = .ok (.iload_n 2, 1) := by decide +kernel
theorem dX8_crowd_181 : decode cX8_crowd 181 = .ok (.ifCond .ne 5, 3) := by decide +kernel
theorem dX8_crowd_184 : decode cX8_crowd 184 = .ok (.iconst (-1), 1) := by decide +kernel
theorem dX8_crowd_185 : decode cX8_crowd 185 = .ok (.ireturn, 1) := by decide +kernel
theorem dX8_crowd_186 : decode cX8_crowd 186 = .ok (.iload_n 1, 1) := by decide +kernel
theorem dX8_crowd_187 : decode cX8_crowd 187 = .ok (.ifCond .ne 7, 3) := by decide +kernel
theorem dX8_crowd_190 : decode cX8_crowd 190 = .ok (.iload_n 3, 1) := by decide +kernel
theorem dX8_crowd_191 : decode cX8_crowd 191 = .ok (.goto 35, 3) := by decide +kernel
theorem dX8_crowd_194 : decode cX8_crowd 194 = .ok (.iload_n 1, 1) := by decide +kernel
theorem dX8_crowd_195 : decode cX8_crowd 195 = .ok (.iconst 1, 1) := by decide +kernel
theorem dX8_crowd_196 : decode cX8_crowd 196 = .ok (.if_icmp .ne 8, 3) := by decide +kernel
theorem dX8_crowd_199 : decode cX8_crowd 199 = .ok (.iload 4, 2) := by decide +kernel
theorem dX8_crowd_201 : decode cX8_crowd 201 = .ok (.goto 25, 3) := by decide +kernel
theorem dX8_crowd_204 : decode cX8_crowd 204 = .ok (.iload_n 1, 1) := by decide +kernel
theorem dX8_crowd_205 : decode cX8_crowd 205 = .ok (.iconst 2, 1) := by decide +kernel
theorem dX8_crowd_206 : decode cX8_crowd 206 = .ok (.if_icmp .ne 13, 3) := by decide +kernel
theorem dX8_crowd_209 : decode cX8_crowd 209 = .ok (.aload_n 0, 1) := by decide +kernel
theorem dX8_crowd_210 : decode cX8_crowd 210 = .ok (.iload_n 3, 1) := by decide +kernel
theorem dX8_crowd_211 : decode cX8_crowd 211 = .ok (.iload 4, 2) := by decide +kernel
theorem dX8_crowd_213 : decode cX8_crowd 213 = .ok (.invokevirtual 191, 3) := by decide +kernel
theorem dX8_crowd_216 : decode cX8_crowd 216 = .ok (.goto 10, 3) := by decide +kernel
theorem dX8_crowd_219 : decode cX8_crowd 219 = .ok (.aload_n 0, 1) := by decide +kernel
theorem dX8_crowd_220 : decode cX8_crowd 220 = .ok (.iload_n 3, 1) := by decide +kernel
theorem dX8_crowd_221 : decode cX8_crowd 221 = .ok (.iload 4, 2) := by decide +kernel
theorem dX8_crowd_223 : decode cX8_crowd 223 = .ok (.invokevirtual 194, 3) := by decide +kernel
theorem dX8_crowd_226 : decode cX8_crowd 226 = .ok (.ireturn, 1) := by decide +kernel
theorem dX8_keyOf_0 : decode cX8_keyOf 0 = .ok (.iload_n 1, 1) := by decide +kernel
theorem dX8_keyOf_1 : decode cX8_keyOf 1 = .ok (.bipush 24, 2) := by decide +kernel
theorem dX8_keyOf_3 : decode cX8_keyOf 3 = .ok (.if_icmp .ge 11, 3) := by decide +kernel
theorem dX8_keyOf_6 : decode cX8_keyOf 6 = .ok (.aload_n 0, 1) := by decide +kernel
theorem dX8_keyOf_7 : decode cX8_keyOf 7 = .ok (.iload_n 1, 1) := by decide +kernel
theorem dX8_keyOf_8 : decode cX8_keyOf 8 = .ok (.invokevirtual 56, 3) := by decide +kernel
theorem dX8_keyOf_11 : decode cX8_keyOf 11 = .ok (.goto 15, 3) := by decide +kernel
theorem dX8_keyOf_14 : decode cX8_keyOf 14 = .ok (.aload_n 0, 1) := by decide +kernel
theorem dX8_keyOf_15 : decode cX8_keyOf 15 = .ok (.getfield 7, 3) := by decide +kernel
theorem dX8_keyOf_18 : decode cX8_keyOf 18 = .ok (.bipush 58, 2) := by decide +kernel
theorem dX8_keyOf_20 : decode cX8_keyOf 20 = .ok (.iload_n 1, 1) := by decide +kernel
theorem dX8_keyOf_21 : decode cX8_keyOf 21 = .ok (.iadd, 1) := by decide +kernel
theorem dX8_keyOf_22 : decode cX8_keyOf 22 = .ok (.bipush 24, 2) := by decide +kernel
theorem dX8_keyOf_24 : decode cX8_keyOf 24 = .ok (.isub, 1) := by decide +kernel
theorem dX8_keyOf_25 : decode cX8_keyOf 25 = .ok (.iaload, 1) := by decide +kernel
theorem dX8_keyOf_26 : decode cX8_keyOf 26 = .ok (.ireturn, 1) := by decide +kernel
theorem dX8_isAhead_0 : decode cX8_isAhead 0 = .ok (.aload_n 0, 1) := by decide +kernel
theorem dX8_isAhead_1 : decode cX8_isAhead 1 = .ok (.iload_n 1, 1) := by decide +kernel
theorem dX8_isAhead_2 : decode cX8_isAhead 2 = .ok (.invokevirtual 197, 3) := by decide +kernel
theorem dX8_isAhead_5 : decode cX8_isAhead 5 = .ok (.aload_n 0, 1) := by decide +kernel
theorem dX8_isAhead_6 : decode cX8_isAhead 6 = .ok (.iload_n 2, 1) := by decide +kernel
theorem dX8_isAhead_7 : decode cX8_isAhead 7 = .ok (.invokevirtual 197, 3) := by decide +kernel
theorem dX8_isAhead_10 : decode cX8_isAhead 10 = .ok (.if_icmp .lt 21, 3) := by decide +kernel
theorem dX8_isAhead_13 : decode cX8_isAhead 13 = .ok (.aload_n 0, 1) := by decide +kernel
theorem dX8_isAhead_14 : decode cX8_isAhead 14 = .ok (.iload_n 1, 1) := by decide +kernel
theorem dX8_isAhead_15 : decode cX8_isAhead 15 = .ok (.invokevirtual 197, 3) := by decide +kernel
theorem dX8_isAhead_18 : decode cX8_isAhead 18 = .ok (.aload_n 0, 1) := by decide +kernel
theorem dX8_isAhead_19 : decode cX8_isAhead 19 = .ok (.iload_n 2, 1) := by decide +kernel
theorem dX8_isAhead_20 : decode cX8_isAhead 20 = .ok (.invokevirtual 197, 3) := by decide +kernel
theorem dX8_isAhead_23 : decode cX8_isAhead 23 = .ok (.if_icmp .ne 12, 3) := by decide +kernel
theorem dX8_isAhead_26 : decode cX8_isAhead 26 = .ok (.iload_n 1, 1) := by decide +kernel
theorem dX8_isAhead_27 : decode cX8_isAhead 27 = .ok (.iload_n 2, 1) := by decide +kernel
theorem dX8_isAhead_28 : decode cX8_isAhead 28 = .ok (.if_icmp .ge 7, 3) := by decide +kernel
theorem dX8_isAhead_31 : decode cX8_isAhead 31 = .ok (.iconst 1, 1) := by decide +kernel
theorem dX8_isAhead_32 : decode cX8_isAhead 32 = .ok (.goto 4, 3) := by decide +kernel
theorem dX8_isAhead_35 : decode cX8_isAhead 35 = .ok (.iconst 0, 1) := by decide +kernel
theorem dX8_isAhead_36 : decode cX8_isAhead 36 = .ok (.ireturn, 1) := by decide +kernel
theorem dX8_lines_0 : decode cX8_lines 0 = .ok (.iconst 0, 1) := by decide +kernel
theorem dX8_lines_1 : decode cX8_lines 1 = .ok (.istore_n 1, 1) := by decide +kernel
theorem dX8_lines_2 : decode cX8_lines 2 = .ok (.iconst 0, 1) := by decide +kernel
theorem dX8_lines_3 : decode cX8_lines 3 = .ok (.istore_n 2, 1) := by decide +kernel
theorem dX8_lines_4 : decode cX8_lines 4 = .ok (.iload_n 2, 1) := by decide +kernel
theorem dX8_lines_5 : decode cX8_lines 5 = .ok (.aload_n 0, 1) := by decide +kernel
theorem dX8_lines_6 : decode cX8_lines 6 = .ok (.getfield 7, 3) := by decide +kernel
theorem dX8_lines_9 : decode cX8_lines 9 = .ok (.bipush 8, 2) := by decide +kernel
theorem dX8_lines_11 : decode cX8_lines 11 = .ok (.iaload, 1) := by decide +kernel
theorem dX8_lines_12 : decode cX8_lines 12 = .ok (.aload_n 0, 1) := by decide +kernel
theorem dX8_lines_13 : decode cX8_lines 13 = .ok (.getfield 7, 3) := by decide +kernel
theorem dX8_lines_16 : decode cX8_lines 16 = .ok (.bipush 57, 2) := by decide +kernel
theorem dX8_lines_18 : decode cX8_lines 18 = .ok (.iaload, 1) := by decide +kernel
theorem dX8_lines_19 : decode cX8_lines 19 = .ok (.iadd, 1) := by decide +kernel
theorem dX8_lines_20 : decode cX8_lines 20 = .ok (.if_icmp .ge 95, 3) := by decide +kernel
theorem dX8_lines_23 : decode cX8_lines 23 = .ok (.iload_n 2, 1) := by decide +kernel
theorem dX8_lines_24 : decode cX8_lines 24 = .ok (.aload_n 0, 1) := by decide +kernel
theorem dX8_lines_25 : decode cX8_lines 25 = .ok (.getfield 7, 3) := by decide +kernel
theorem dX8_lines_28 : decode cX8_lines 28 = .ok (.bipush 8, 2) := by decide +kernel
theorem dX8_lines_30 : decode cX8_lines 30 = .ok (.iaload, 1) := by decide +kernel
theorem dX8_lines_31 : decode cX8_lines 31 = .ok (.if_icmp .ge 7, 3) := by decide +kernel
theorem dX8_lines_34 : decode cX8_lines 34 = .ok (.iload_n 2, 1) := by decide +kernel
theorem dX8_lines_35 : decode cX8_lines 35 = .ok (.goto 15, 3) := by decide +kernel
theorem dX8_lines_38 : decode cX8_lines 38 = .ok (.bipush 24, 2) := by decide +kernel
theorem dX8_lines_40 : decode cX8_lines 40 = .ok (.iload_n 2, 1) := by decide +kernel
theorem dX8_lines_41 : decode cX8_lines 41 = .ok (.iadd, 1) := by decide +kernel
theorem dX8_lines_42 : decode cX8_lines 42 = .ok (.aload_n 0, 1) := by decide +kernel
theorem dX8_lines_43 : decode cX8_lines 43 = .ok (.getfield 7, 3) := by decide +kernel
theorem dX8_lines_46 : decode cX8_lines 46 = .ok (.bipush 8, 2) := by decide +kernel
theorem dX8_lines_48 : decode cX8_lines 48 = .ok (.iaload, 1) := by decide +kernel
theorem dX8_lines_49 : decode cX8_lines 49 = .ok (.isub, 1) := by decide +kernel
theorem dX8_lines_50 : decode cX8_lines 50 = .ok (.istore_n 3, 1) := by decide +kernel
theorem dX8_lines_51 : decode cX8_lines 51 = .ok (.iload_n 1, 1) := by decide +kernel
theorem dX8_lines_52 : decode cX8_lines 52 = .ok (.istore 4, 2) := by decide +kernel
theorem dX8_lines_54 : decode cX8_lines 54 = .ok (.iload 4, 2) := by decide +kernel
theorem dX8_lines_56 : decode cX8_lines 56 = .ok (.ifCond .le 42, 3) := by decide +kernel
theorem dX8_lines_59 : decode cX8_lines 59 = .ok (.aload_n 0, 1) := by decide +kernel
theorem dX8_lines_60 : decode cX8_lines 60 = .ok (.iload_n 3, 1) := by decide +kernel
theorem dX8_lines_61 : decode cX8_lines 61 = .ok (.aload_n 0, 1) := by decide +kernel
theorem dX8_lines_62 : decode cX8_lines 62 = .ok (.getfield 38, 3) := by decide +kernel
theorem dX8_lines_65 : decode cX8_lines 65 = .ok (.iload 4, 2) := by decide +kernel
theorem dX8_lines_67 : decode cX8_lines 67 = .ok (.iconst 1, 1) := by decide +kernel
theorem dX8_lines_68 : decode cX8_lines 68 = .ok (.isub, 1) := by decide +kernel
theorem dX8_lines_69 : decode cX8_lines 69 = .ok (.iaload, 1) := by decide +kernel
theorem dX8_lines_70 : decode cX8_lines 70 = .ok (.invokevirtual 200, 3) := by decide +kernel
theorem dX8_lines_73 : decode cX8_lines 73 = .ok (.ifCond .eq 25, 3) := by decide +kernel
theorem dX8_lines_76 : decode cX8_lines 76 = .ok (.aload_n 0, 1) := by decide +kernel
theorem dX8_lines_77 : decode cX8_lines 77 = .ok (.getfield 38, 3) := by decide +kernel
theorem dX8_lines_80 : decode cX8_lines 80 = .ok (.iload 4, 2) := by decide +kernel
theorem dX8_lines_82 : decode cX8_lines 82 = .ok (.aload_n 0, 1) := by decide +kernel
theorem dX8_lines_83 : decode cX8_lines 83 = .ok (.getfield 38, 3) := by decide +kernel
theorem dX8_lines_86 : decode cX8_lines 86 = .ok (.iload 4, 2) := by decide +kernel
theorem dX8_lines_88 : decode cX8_lines 88 = .ok (.iconst 1, 1) := by decide +kernel
theorem dX8_lines_89 : decode cX8_lines 89 = .ok (.isub, 1) := by decide +kernel
theorem dX8_lines_90 : decode cX8_lines 90 = .ok (.iaload, 1) := by decide +kernel
theorem dX8_lines_91 : decode cX8_lines 91 = .ok (.iastore, 1) := by decide +kernel
theorem dX8_lines_92 : decode cX8_lines 92 = .ok (.iinc 4 (-1), 3) := by decide +kernel
theorem dX8_lines_95 : decode cX8_lines 95 = .ok (.goto (-41), 3) := by decide +kernel
theorem dX8_lines_98 : decode cX8_lines 98 = .ok (.aload_n 0, 1) := by decide +kernel
theorem dX8_lines_99 : decode cX8_lines 99 = .ok (.getfield 38, 3) := by decide +kernel
theorem dX8_lines_102 : decode cX8_lines 102 = .ok (.iload 4, 2) := by decide +kernel
theorem dX8_lines_104 : decode cX8_lines 104 = .ok (.iload_n 3, 1) := by decide +kernel
theorem dX8_lines_105 : decode cX8_lines 105 = .ok (.iastore, 1) := by decide +kernel
theorem dX8_lines_106 : decode cX8_lines 106 = .ok (.iinc 1 1, 3) := by decide +kernel
theorem dX8_lines_109 : decode cX8_lines 109 = .ok (.iinc 2 1, 3) := by decide +kernel
theorem dX8_lines_112 : decode cX8_lines 112 = .ok (.goto (-108), 3) := by decide +kernel
theorem dX8_lines_115 : decode cX8_lines 115 = .ok (.iload_n 1, 1) := by decide +kernel
theorem dX8_lines_116 : decode cX8_lines 116 = .ok (.ireturn, 1) := by decide +kernel
theorem dX8_goesWith_0 : decode cX8_goesWith 0 = .ok (.iconst 1, 1) := by decide +kernel
theorem dX8_goesWith_1 : decode cX8_goesWith 1 = .ok (.istore 4, 2) := by decide +kernel
theorem dX8_goesWith_3 : decode cX8_goesWith 3 = .ok (.iload_n 2, 1) := by decide +kernel
theorem dX8_goesWith_4 : decode cX8_goesWith 4 = .ok (.istore 5, 2) := by decide +kernel
theorem dX8_goesWith_6 : decode cX8_goesWith 6 = .ok (.iload 5, 2) := by decide +kernel
theorem dX8_goesWith_8 : decode cX8_goesWith 8 = .ok (.iload_n 3, 1) := by decide +kernel
theorem dX8_goesWith_9 : decode cX8_goesWith 9 = .ok (.if_icmp .ge 119, 3) := by decide +kernel
theorem dX8_goesWith_12 : decode cX8_goesWith 12 = .ok (.iload 4, 2) := by decide +kernel
theorem dX8_goesWith_14 : decode cX8_goesWith 14 = .ok (.ifCond .eq 114, 3) := by decide +kernel
theorem dX8_goesWith_17 : decode cX8_goesWith 17 = .ok (.aload_n 0, 1) := by decide +kernel
theorem dX8_goesWith_18 : decode cX8_goesWith 18 = .ok (.getfield 38, 3) := by decide +kernel
theorem dX8_goesWith_21 : decode cX8_goesWith 21 = .ok (.iload 5, 2) := by decide +kernel
theorem dX8_goesWith_23 : decode cX8_goesWith 23 = .ok (.iaload, 1) := by decide +kernel
theorem dX8_goesWith_24 : decode cX8_goesWith 24 = .ok (.istore 6, 2) := by decide +kernel
theorem dX8_goesWith_26 : decode cX8_goesWith 26 = .ok (.iload_n 1, 1) := by decide +kernel
theorem dX8_goesWith_27 : decode cX8_goesWith 27 = .ok (.bipush 24, 2) := by decide +kernel
theorem dX8_goesWith_29 : decode cX8_goesWith 29 = .ok (.if_icmp .ge 7, 3) := by decide +kernel
theorem dX8_goesWith_32 : decode cX8_goesWith 32 = .ok (.iconst 1, 1) := by decide +kernel
theorem dX8_goesWith_33 : decode cX8_goesWith 33 = .ok (.goto 4, 3) := by decide +kernel
theorem dX8_goesWith_36 : decode cX8_goesWith 36 = .ok (.iconst 0, 1) := by decide +kernel
theorem dX8_goesWith_37 : decode cX8_goesWith 37 = .ok (.iload 6, 2) := by decide +kernel
theorem dX8_goesWith_39 : decode cX8_goesWith 39 = .ok (.bipush 24, 2) := by decide +kernel
theorem dX8_goesWith_41 : decode cX8_goesWith 41 = .ok (.if_icmp .ge 7, 3) := by decide +kernel
theorem dX8_goesWith_44 : decode cX8_goesWith 44 = .ok (.iconst 1, 1) := by decide +kernel
theorem dX8_goesWith_45 : decode cX8_goesWith 45 = .ok (.goto 4, 3) := by decide +kernel
theorem dX8_goesWith_48 : decode cX8_goesWith 48 = .ok (.iconst 0, 1) := by decide +kernel
theorem dX8_goesWith_49 : decode cX8_goesWith 49 = .ok (.if_icmp .eq 7, 3) := by decide +kernel
theorem dX8_goesWith_52 : decode cX8_goesWith 52 = .ok (.iconst 1, 1) := by decide +kernel
theorem dX8_goesWith_53 : decode cX8_goesWith 53 = .ok (.goto 4, 3) := by decide +kernel
theorem dX8_goesWith_56 : decode cX8_goesWith 56 = .ok (.iconst 0, 1) := by decide +kernel
theorem dX8_goesWith_57 : decode cX8_goesWith 57 = .ok (.istore 7, 2) := by decide +kernel
theorem dX8_goesWith_59 : decode cX8_goesWith 59 = .ok (.iload 7, 2) := by decide +kernel
theorem dX8_goesWith_61 : decode cX8_goesWith 61 = .ok (.ifCond .eq 54, 3) := by decide +kernel
theorem dX8_goesWith_64 : decode cX8_goesWith 64 = .ok (.iload_n 1, 1) := by decide +kernel
theorem dX8_goesWith_65 : decode cX8_goesWith 65 = .ok (.bipush 24, 2) := by decide +kernel
theorem dX8_goesWith_67 : decode cX8_goesWith 67 = .ok (.if_icmp .ge 27, 3) := by decide +kernel
theorem dX8_goesWith_70 : decode cX8_goesWith 70 = .ok (.aload_n 0, 1) := by decide +kernel
theorem dX8_goesWith_71 : decode cX8_goesWith 71 = .ok (.iload_n 1, 1) := by decide +kernel
theorem dX8_goesWith_72 : decode cX8_goesWith 72 = .ok (.aload_n 0, 1) := by decide +kernel
theorem dX8_goesWith_73 : decode cX8_goesWith 73 = .ok (.getfield 7, 3) := by decide +kernel
theorem dX8_goesWith_76 : decode cX8_goesWith 76 = .ok (.bipush 58, 2) := by decide +kernel
theorem dX8_goesWith_78 : decode cX8_goesWith 78 = .ok (.iload 6, 2) := by decide +kernel
theorem dX8_goesWith_80 : decode cX8_goesWith 80 = .ok (.iadd, 1) := by decide +kernel
theorem dX8_goesWith_81 : decode cX8_goesWith 81 = .ok (.bipush 24, 2) := by decide +kernel
theorem dX8_goesWith_83 : decode cX8_goesWith 83 = .ok (.isub, 1) := by decide +kernel
theorem dX8_goesWith_84 : decode cX8_goesWith 84 = .ok (.iaload, 1) := by decide +kernel
theorem dX8_goesWith_85 : decode cX8_goesWith 85 = .ok (.invokevirtual 129, 3) := by decide +kernel
theorem dX8_goesWith_88 : decode cX8_goesWith 88 = .ok (.ifCond .eq 31, 3) := by decide +kernel
theorem dX8_goesWith_91 : decode cX8_goesWith 91 = .ok (.goto 24, 3) := by decide +kernel
theorem dX8_goesWith_94 : decode cX8_goesWith 94 = .ok (.aload_n 0, 1) := by decide +kernel
theorem dX8_goesWith_95 : decode cX8_goesWith 95 = .ok (.iload 6, 2) := by decide +kernel
theorem dX8_goesWith_97 : decode cX8_goesWith 97 = .ok (.aload_n 0, 1) := by decide +kernel
theorem dX8_goesWith_98 : decode cX8_goesWith 98 = .ok (.getfield 7, 3) := by decide +kernel
theorem dX8_goesWith_101 : decode cX8_goesWith 101 = .ok (.bipush 58, 2) := by decide +kernel
theorem dX8_goesWith_103 : decode cX8_goesWith 103 = .ok (.iload_n 1, 1) := by decide +kernel
theorem dX8_goesWith_104 : decode cX8_goesWith 104 = .ok (.iadd, 1) := by decide +kernel
theorem dX8_goesWith_105 : decode cX8_goesWith 105 = .ok (.bipush 24, 2) := by decide +kernel
theorem dX8_goesWith_107 : decode cX8_goesWith 107 = .ok (.isub, 1) := by decide +kernel
theorem dX8_goesWith_108 : decode cX8_goesWith 108 = .ok (.iaload, 1) := by decide +kernel
theorem dX8_goesWith_109 : decode cX8_goesWith 109 = .ok (.invokevirtual 129, 3) := by decide +kernel
theorem dX8_goesWith_112 : decode cX8_goesWith 112 = .ok (.ifCond .eq 7, 3) := by decide +kernel
theorem dX8_goesWith_115 : decode cX8_goesWith 115 = .ok (.iconst 1, 1) := by decide +kernel
theorem dX8_goesWith_116 : decode cX8_goesWith 116 = .ok (.goto 4, 3) := by decide +kernel
theorem dX8_goesWith_119 : decode cX8_goesWith 119 = .ok (.iconst 0, 1) := by decide +kernel
theorem dX8_goesWith_120 : decode cX8_goesWith 120 = .ok (.istore 4, 2) := by decide +kernel
theorem dX8_goesWith_122 : decode cX8_goesWith 122 = .ok (.iinc 5 1, 3) := by decide +kernel
theorem dX8_goesWith_125 : decode cX8_goesWith 125 = .ok (.goto (-119), 3) := by decide +kernel
theorem dX8_goesWith_128 : decode cX8_goesWith 128 = .ok (.iload 4, 2) := by decide +kernel
theorem dX8_goesWith_130 : decode cX8_goesWith 130 = .ok (.ireturn, 1) := by decide +kernel
theorem dX8_boxes_0 : decode cX8_boxes 0 = .ok (.iload_n 1, 1) := by decide +kernel
theorem dX8_boxes_1 : decode cX8_boxes 1 = .ok (.i2l, 1) := by decide +kernel
theorem dX8_boxes_2 : decode cX8_boxes 2 = .ok (.lconst 0, 1) := by decide +kernel
theorem dX8_boxes_3 : decode cX8_boxes 3 = .ok (.ldc2_w 203, 3) := by decide +kernel
theorem dX8_boxes_6 : decode cX8_boxes 6 = .ok (.invokestatic 50, 3) := by decide +kernel
theorem dX8_boxes_9 : decode cX8_boxes 9 = .ok (.ifCond .ne 6, 3) := by decide +kernel
theorem dX8_boxes_12 : decode cX8_boxes 12 = .ok (.ldc 118, 2) := by decide +kernel
theorem dX8_boxes_14 : decode cX8_boxes 14 = .ok (.ireturn, 1) := by decide +kernel
theorem dX8_boxes_15 : decode cX8_boxes 15 = .ok (.aload_n 0, 1) := by decide +kernel
theorem dX8_boxes_16 : decode cX8_boxes 16 = .ok (.invokevirtual 205, 3) := by decide +kernel
theorem dX8_boxes_19 : decode cX8_boxes 19 = .ok (.istore_n 2, 1) := by decide +kernel
theorem dX8_boxes_20 : decode cX8_boxes 20 = .ok (.iconst 0, 1) := by decide +kernel
theorem dX8_boxes_21 : decode cX8_boxes 21 = .ok (.istore_n 3, 1) := by decide +kernel
theorem dX8_boxes_22 : decode cX8_boxes 22 = .ok (.iload_n 3, 1) := by decide +kernel
theorem dX8_boxes_23 : decode cX8_boxes 23 = .ok (.sipush 490, 3) := by decide +kernel
theorem dX8_boxes_26 : decode cX8_boxes 26 = .ok (.if_icmp .ge 16, 3) := by decide +kernel
theorem dX8_boxes_29 : decode cX8_boxes 29 = .ok (.aload_n 0, 1) := by decide +kernel
theorem dX8_boxes_30 : decode cX8_boxes 30 = .ok (.getfield 41, 3) := by decide +kernel
theorem dX8_boxes_33 : decode cX8_boxes 33 = .ok (.iload_n 3, 1) := by decide +kernel
theorem dX8_boxes_34 : decode cX8_boxes 34 = .ok (.iconst 0, 1) := by decide +kernel
theorem dX8_boxes_35 : decode cX8_boxes 35 = .ok (.iastore, 1) := by decide +kernel
theorem dX8_boxes_36 : decode cX8_boxes 36 = .ok (.iinc 3 1, 3) := by decide +kernel
theorem dX8_boxes_39 : decode cX8_boxes 39 = .ok (.goto (-17), 3) := by decide +kernel
theorem dX8_boxes_42 : decode cX8_boxes 42 = .ok (.iconst 1, 1) := by decide +kernel
theorem dX8_boxes_43 : decode cX8_boxes 43 = .ok (.istore_n 3, 1) := by decide +kernel
theorem dX8_boxes_44 : decode cX8_boxes 44 = .ok (.iload_n 3, 1) := by decide +kernel
theorem dX8_boxes_45 : decode cX8_boxes 45 = .ok (.iload_n 1, 1) := by decide +kernel
theorem dX8_boxes_46 : decode cX8_boxes 46 = .ok (.if_icmp .gt 210, 3) := by decide +kernel
theorem dX8_boxes_49 : decode cX8_boxes 49 = .ok (.iconst 1, 1) := by decide +kernel
theorem dX8_boxes_50 : decode cX8_boxes 50 = .ok (.istore 4, 2) := by decide +kernel
theorem dX8_boxes_52 : decode cX8_boxes 52 = .ok (.iload 4, 2) := by decide +kernel
theorem dX8_boxes_54 : decode cX8_boxes 54 = .ok (.iload_n 2, 1) := by decide +kernel
theorem dX8_boxes_55 : decode cX8_boxes 55 = .ok (.if_icmp .gt 195, 3) := by decide +kernel
theorem dX8_boxes_58 : decode cX8_boxes 58 = .ok (.aload_n 0, 1) := by decide +kernel
theorem dX8_boxes_59 : decode cX8_boxes 59 = .ok (.getfield 41, 3) := by decide +kernel
theorem dX8_boxes_62 : decode cX8_boxes 62 = .ok (.bipush 49, 2) := by decide +kernel
theorem dX8_boxes_64 : decode cX8_boxes 64 = .ok (.iload_n 3, 1) := by decide +kernel
theorem dX8_boxes_65 : decode cX8_boxes 65 = .ok (.imul, 1) := by decide +kernel
theorem dX8_boxes_66 : decode cX8_boxes 66 = .ok (.iload 4, 2) := by decide +kernel
theorem dX8_boxes_68 : decode cX8_boxes 68 = .ok (.iadd, 1) := by decide +kernel
theorem dX8_boxes_69 : decode cX8_boxes 69 = .ok (.iconst 1, 1) := by decide +kernel
theorem dX8_boxes_70 : decode cX8_boxes 70 = .ok (.isub, 1) := by decide +kernel
theorem dX8_boxes_71 : decode cX8_boxes 71 = .ok (.iaload, 1) := by decide +kernel
theorem dX8_boxes_72 : decode cX8_boxes 72 = .ok (.istore 5, 2) := by decide +kernel
theorem dX8_boxes_74 : decode cX8_boxes 74 = .ok (.iconst 0, 1) := by decide +kernel
theorem dX8_boxes_75 : decode cX8_boxes 75 = .ok (.istore 6, 2) := by decide +kernel
theorem dX8_boxes_77 : decode cX8_boxes 77 = .ok (.iconst 0, 1) := by decide +kernel
theorem dX8_boxes_78 : decode cX8_boxes 78 = .ok (.istore 7, 2) := by decide +kernel
theorem dX8_boxes_80 : decode cX8_boxes 80 = .ok (.iconst 1, 1) := by decide +kernel
theorem dX8_boxes_81 : decode cX8_boxes 81 = .ok (.istore 8, 2) := by decide +kernel
theorem dX8_boxes_83 : decode cX8_boxes 83 = .ok (.iload 4, 2) := by decide +kernel
theorem dX8_boxes_85 : decode cX8_boxes 85 = .ok (.iconst 1, 1) := by decide +kernel
theorem dX8_boxes_86 : decode cX8_boxes 86 = .ok (.isub, 1) := by decide +kernel
theorem dX8_boxes_87 : decode cX8_boxes 87 = .ok (.istore 9, 2) := by decide +kernel
theorem dX8_boxes_89 : decode cX8_boxes 89 = .ok (.iload 9, 2) := by decide +kernel
theorem dX8_boxes_91 : decode cX8_boxes 91 = .ok (.ifCond .lt 139, 3) := by decide +kernel
theorem dX8_boxes_94 : decode cX8_boxes 94 = .ok (.iload 8, 2) := by decide +kernel
theorem dX8_boxes_96 : decode cX8_boxes 96 = .ok (.ifCond .eq 134, 3) := by decide +kernel
theorem dX8_boxes_99 : decode cX8_boxes 99 = .ok (.aload_n 0, 1) := by decide +kernel
theorem dX8_boxes_100 : decode cX8_boxes 100 = .ok (.aload_n 0, 1) := by decide +kernel
theorem dX8_boxes_101 : decode cX8_boxes 101 = .ok (.getfield 38, 3) := by decide +kernel
theorem dX8_boxes_104 : decode cX8_boxes 104 = .ok (.iload 9, 2) := by decide +kernel
theorem dX8_boxes_106 : decode cX8_boxes 106 = .ok (.iaload, 1) := by decide +kernel
theorem dX8_boxes_107 : decode cX8_boxes 107 = .ok (.iload 9, 2) := by decide +kernel
theorem dX8_boxes_109 : decode cX8_boxes 109 = .ok (.iconst 1, 1) := by decide +kernel
theorem dX8_boxes_110 : decode cX8_boxes 110 = .ok (.iadd, 1) := by decide +kernel
theorem dX8_boxes_111 : decode cX8_boxes 111 = .ok (.iload 4, 2) := by decide +kernel
theorem dX8_boxes_113 : decode cX8_boxes 113 = .ok (.invokevirtual 208, 3) := by decide +kernel
theorem dX8_boxes_116 : decode cX8_boxes 116 = .ok (.istore 8, 2) := by decide +kernel
theorem dX8_boxes_118 : decode cX8_boxes 118 = .ok (.iload 6, 2) := by decide +kernel
theorem dX8_boxes_120 : decode cX8_boxes 120 = .ok (.iload 8, 2) := by decide +kernel
theorem dX8_boxes_122 : decode cX8_boxes 122 = .ok (.ifCond .eq 19, 3) := by decide +kernel
theorem dX8_boxes_125 : decode cX8_boxes 125 = .ok (.aload_n 0, 1) := by decide +kernel
theorem dX8_boxes_126 : decode cX8_boxes 126 = .ok (.getfield 38, 3) := by decide +kernel
theorem dX8_boxes_129 : decode cX8_boxes 129 = .ok (.iload 9, 2) := by decide +kernel
theorem dX8_boxes_131 : decode cX8_boxes 131 = .ok (.iaload, 1) := by decide +kernel
theorem dX8_boxes_132 : decode cX8_boxes 132 = .ok (.bipush 24, 2) := by decide +kernel
theorem dX8_boxes_134 : decode cX8_boxes 134 = .ok (.if_icmp .ge 7, 3) := by decide +kernel
theorem dX8_boxes_137 : decode cX8_boxes 137 = .ok (.iconst 1, 1) := by decide +kernel
theorem dX8_boxes_138 : decode cX8_boxes 138 = .ok (.goto 4, 3) := by decide +kernel
theorem dX8_boxes_141 : decode cX8_boxes 141 = .ok (.iconst 0, 1) := by decide +kernel
theorem dX8_boxes_142 : decode cX8_boxes 142 = .ok (.iadd, 1) := by decide +kernel
theorem dX8_boxes_143 : decode cX8_boxes 143 = .ok (.istore 6, 2) := by decide +kernel
theorem dX8_boxes_145 : decode cX8_boxes 145 = .ok (.iload 7, 2) := by decide +kernel
theorem dX8_boxes_147 : decode cX8_boxes 147 = .ok (.iload 8, 2) := by decide +kernel
theorem dX8_boxes_149 : decode cX8_boxes 149 = .ok (.ifCond .eq 19, 3) := by decide +kernel
theorem dX8_boxes_152 : decode cX8_boxes 152 = .ok (.aload_n 0, 1) := by decide +kernel
theorem dX8_boxes_153 : decode cX8_boxes 153 = .ok (.getfield 38, 3) := by decide +kernel
theorem dX8_boxes_156 : decode cX8_boxes 156 = .ok (.iload 9, 2) := by decide +kernel
theorem dX8_boxes_158 : decode cX8_boxes 158 = .ok (.iaload, 1) := by decide +kernel
theorem dX8_boxes_159 : decode cX8_boxes 159 = .ok (.bipush 24, 2) := by decide +kernel
theorem dX8_boxes_161 : decode cX8_boxes 161 = .ok (.if_icmp .lt 7, 3) := by decide +kernel
theorem dX8_boxes_164 : decode cX8_boxes 164 = .ok (.iconst 1, 1) := by decide +kernel
theorem dX8_boxes_165 : decode cX8_boxes 165 = .ok (.goto 4, 3) := by decide +kernel
theorem dX8_boxes_168 : decode cX8_boxes 168 = .ok (.iconst 0, 1) := by decide +kernel
theorem dX8_boxes_169 : decode cX8_boxes 169 = .ok (.iadd, 1) := by decide +kernel
theorem dX8_boxes_170 : decode cX8_boxes 170 = .ok (.istore 7, 2) := by decide +kernel
theorem dX8_boxes_172 : decode cX8_boxes 172 = .ok (.aload_n 0, 1) := by decide +kernel
theorem dX8_boxes_173 : decode cX8_boxes 173 = .ok (.getfield 41, 3) := by decide +kernel
theorem dX8_boxes_176 : decode cX8_boxes 176 = .ok (.bipush 49, 2) := by decide +kernel
theorem dX8_boxes_178 : decode cX8_boxes 178 = .ok (.iload_n 3, 1) := by decide +kernel
theorem dX8_boxes_179 : decode cX8_boxes 179 = .ok (.iconst 1, 1) := by decide +kernel
theorem dX8_boxes_180 : decode cX8_boxes 180 = .ok (.isub, 1) := by decide +kernel
theorem dX8_boxes_181 : decode cX8_boxes 181 = .ok (.imul, 1) := by decide +kernel
theorem dX8_boxes_182 : decode cX8_boxes 182 = .ok (.iload 9, 2) := by decide +kernel
theorem dX8_boxes_184 : decode cX8_boxes 184 = .ok (.iadd, 1) := by decide +kernel
theorem dX8_boxes_185 : decode cX8_boxes 185 = .ok (.iaload, 1) := by decide +kernel
theorem dX8_boxes_186 : decode cX8_boxes 186 = .ok (.iload 6, 2) := by decide +kernel
theorem dX8_boxes_188 : decode cX8_boxes 188 = .ok (.iload 7, 2) := by decide +kernel
theorem dX8_boxes_190 : decode cX8_boxes 190 = .ok (.if_icmp .ge 8, 3) := by decide +kernel
theorem dX8_boxes_193 : decode cX8_boxes 193 = .ok (.iload 6, 2) := by decide +kernel
theorem dX8_boxes_195 : decode cX8_boxes 195 = .ok (.goto 5, 3) := by decide +kernel
theorem dX8_boxes_198 : decode cX8_boxes 198 = .ok (.iload 7, 2) := by decide +kernel
theorem dX8_boxes_200 : decode cX8_boxes 200 = .ok (.iadd, 1) := by decide +kernel
theorem dX8_boxes_201 : decode cX8_boxes 201 = .ok (.istore 10, 2) := by decide +kernel
theorem dX8_boxes_203 : decode cX8_boxes 203 = .ok (.iload 8, 2) := by decide +kernel
theorem dX8_boxes_205 : decode cX8_boxes 205 = .ok (.ifCond .eq 15, 3) := by decide +kernel
theorem dX8_boxes_208 : decode cX8_boxes 208 = .ok (.iload 10, 2) := by decide +kernel
theorem dX8_boxes_210 : decode cX8_boxes 210 = .ok (.iload 5, 2) := by decide +kernel
theorem dX8_boxes_212 : decode cX8_boxes 212 = .ok (.if_icmp .le 8, 3) := by decide +kernel
theorem dX8_boxes_215 : decode cX8_boxes 215 = .ok (.iload 10, 2) := by decide +kernel
theorem dX8_boxes_217 : decode cX8_boxes 217 = .ok (.goto 5, 3) := by decide +kernel
theorem dX8_boxes_220 : decode cX8_boxes 220 = .ok (.iload 5, 2) := by decide +kernel
theorem dX8_boxes_222 : decode cX8_boxes 222 = .ok (.istore 5, 2) := by decide +kernel
theorem dX8_boxes_224 : decode cX8_boxes 224 = .ok (.iinc 9 (-1), 3) := by decide +kernel
theorem dX8_boxes_227 : decode cX8_boxes 227 = .ok (.goto (-138), 3) := by decide +kernel
theorem dX8_boxes_230 : decode cX8_boxes 230 = .ok (.aload_n 0, 1) := by decide +kernel
theorem dX8_boxes_231 : decode cX8_boxes 231 = .ok (.getfield 41, 3) := by decide +kernel
theorem dX8_boxes_234 : decode cX8_boxes 234 = .ok (.bipush 49, 2) := by decide +kernel
theorem dX8_boxes_236 : decode cX8_boxes 236 = .ok (.iload_n 3, 1) := by decide +kernel
theorem dX8_boxes_237 : decode cX8_boxes 237 = .ok (.imul, 1) := by decide +kernel
theorem dX8_boxes_238 : decode cX8_boxes 238 = .ok (.iload 4, 2) := by decide +kernel
theorem dX8_boxes_240 : decode cX8_boxes 240 = .ok (.iadd, 1) := by decide +kernel
theorem dX8_boxes_241 : decode cX8_boxes 241 = .ok (.iload 5, 2) := by decide +kernel
theorem dX8_boxes_243 : decode cX8_boxes 243 = .ok (.iastore, 1) := by decide +kernel
theorem dX8_boxes_244 : decode cX8_boxes 244 = .ok (.iinc 4 1, 3) := by decide +kernel
theorem dX8_boxes_247 : decode cX8_boxes 247 = .ok (.goto (-195), 3) := by decide +kernel
theorem dX8_boxes_250 : decode cX8_boxes 250 = .ok (.iinc 3 1, 3) := by decide +kernel
theorem dX8_boxes_253 : decode cX8_boxes 253 = .ok (.goto (-209), 3) := by decide +kernel
theorem dX8_boxes_256 : decode cX8_boxes 256 = .ok (.aload_n 0, 1) := by decide +kernel
theorem dX8_boxes_257 : decode cX8_boxes 257 = .ok (.getfield 41, 3) := by decide +kernel
theorem dX8_boxes_260 : decode cX8_boxes 260 = .ok (.bipush 49, 2) := by decide +kernel
theorem dX8_boxes_262 : decode cX8_boxes 262 = .ok (.iload_n 1, 1) := by decide +kernel
theorem dX8_boxes_263 : decode cX8_boxes 263 = .ok (.imul, 1) := by decide +kernel
theorem dX8_boxes_264 : decode cX8_boxes 264 = .ok (.iload_n 2, 1) := by decide +kernel
theorem dX8_boxes_265 : decode cX8_boxes 265 = .ok (.iadd, 1) := by decide +kernel
theorem dX8_boxes_266 : decode cX8_boxes 266 = .ok (.iaload, 1) := by decide +kernel
theorem dX8_boxes_267 : decode cX8_boxes 267 = .ok (.ireturn, 1) := by decide +kernel
theorem dX8_withBore_0 : decode cX8_withBore 0 = .ok (.iload_n 1, 1) := by decide +kernel
theorem dX8_withBore_1 : decode cX8_withBore 1 = .ok (.invokestatic 74, 3) := by decide +kernel
theorem dX8_withBore_4 : decode cX8_withBore 4 = .ok (.ifCond .eq 12, 3) := by decide +kernel
theorem dX8_withBore_7 : decode cX8_withBore 7 = .ok (.aload_n 0, 1) := by decide +kernel
theorem dX8_withBore_8 : decode cX8_withBore 8 = .ok (.iconst 0, 1) := by decide +kernel
theorem dX8_withBore_9 : decode cX8_withBore 9 = .ok (.iload_n 1, 1) := by decide +kernel
theorem dX8_withBore_10 : decode cX8_withBore 10 = .ok (.invokevirtual 67, 3) := by decide +kernel
theorem dX8_withBore_13 : decode cX8_withBore 13 = .ok (.goto 5, 3) := by decide +kernel
theorem dX8_withBore_16 : decode cX8_withBore 16 = .ok (.ldc 118, 2) := by decide +kernel
theorem dX8_withBore_18 : decode cX8_withBore 18 = .ok (.ireturn, 1) := by decide +kernel
theorem dX8_see_0 : decode cX8_see 0 = .ok (.iload_n 1, 1) := by decide +kernel
theorem dX8_see_1 : decode cX8_see 1 = .ok (.invokestatic 142, 3) := by decide +kernel
theorem dX8_see_4 : decode cX8_see 4 = .ok (.ifCond .ne 6, 3) := by decide +kernel
theorem dX8_see_7 : decode cX8_see 7 = .ok (.ldc 128, 2) := by decide +kernel
theorem dX8_see_9 : decode cX8_see 9 = .ok (.ireturn, 1) := by decide +kernel
theorem dX8_see_10 : decode cX8_see 10 = .ok (.iload_n 2, 1) := by decide +kernel
theorem dX8_see_11 : decode cX8_see 11 = .ok (.invokestatic 74, 3) := by decide +kernel
theorem dX8_see_14 : decode cX8_see 14 = .ok (.ifCond .ne 6, 3) := by decide +kernel
theorem dX8_see_17 : decode cX8_see 17 = .ok (.ldc 118, 2) := by decide +kernel
end
section
theorem dX8_see_19 : decode cX8_see 19 = .ok (.ireturn, 1) := by decide +kernel
theorem dX8_see_20 : decode cX8_see 20 = .ok (.aload_n 0, 1) := by decide +kernel
theorem dX8_see_21 : decode cX8_see 21 = .ok (.getfield 78, 3) := by decide +kernel
theorem dX8_see_24 : decode cX8_see 24 = .ok (.bipush 6, 2) := by decide +kernel
theorem dX8_see_26 : decode cX8_see 26 = .ok (.if_icmp .ne 6, 3) := by decide +kernel
theorem dX8_see_29 : decode cX8_see 29 = .ok (.ldc 160, 2) := by decide +kernel
theorem dX8_see_31 : decode cX8_see 31 = .ok (.ireturn, 1) := by decide +kernel
theorem dX8_see_32 : decode cX8_see 32 = .ok (.aload_n 0, 1) := by decide +kernel
theorem dX8_see_33 : decode cX8_see 33 = .ok (.getfield 29, 3) := by decide +kernel
theorem dX8_see_36 : decode cX8_see 36 = .ok (.aload_n 0, 1) := by decide +kernel
theorem dX8_see_37 : decode cX8_see 37 = .ok (.getfield 78, 3) := by decide +kernel
theorem dX8_see_40 : decode cX8_see 40 = .ok (.iload_n 1, 1) := by decide +kernel
theorem dX8_see_41 : decode cX8_see 41 = .ok (.iastore, 1) := by decide +kernel
theorem dX8_see_42 : decode cX8_see 42 = .ok (.aload_n 0, 1) := by decide +kernel
theorem dX8_see_43 : decode cX8_see 43 = .ok (.getfield 32, 3) := by decide +kernel
theorem dX8_see_46 : decode cX8_see 46 = .ok (.aload_n 0, 1) := by decide +kernel
theorem dX8_see_47 : decode cX8_see 47 = .ok (.getfield 78, 3) := by decide +kernel
theorem dX8_see_50 : decode cX8_see 50 = .ok (.iload_n 2, 1) := by decide +kernel
theorem dX8_see_51 : decode cX8_see 51 = .ok (.iastore, 1) := by decide +kernel
theorem dX8_see_52 : decode cX8_see 52 = .ok (.aload_n 0, 1) := by decide +kernel
theorem dX8_see_53 : decode cX8_see 53 = .ok (.getfield 35, 3) := by decide +kernel
theorem dX8_see_56 : decode cX8_see 56 = .ok (.aload_n 0, 1) := by decide +kernel
theorem dX8_see_57 : decode cX8_see 57 = .ok (.getfield 78, 3) := by decide +kernel
theorem dX8_see_60 : decode cX8_see 60 = .ok (.iload_n 3, 1) := by decide +kernel
theorem dX8_see_61 : decode cX8_see 61 = .ok (.bastore, 1) := by decide +kernel
theorem dX8_see_62 : decode cX8_see 62 = .ok (.aload_n 0, 1) := by decide +kernel
theorem dX8_see_63 : decode cX8_see 63 = .ok (.dup, 1) := by decide +kernel
theorem dX8_see_64 : decode cX8_see 64 = .ok (.getfield 78, 3) := by decide +kernel
theorem dX8_see_67 : decode cX8_see 67 = .ok (.iconst 1, 1) := by decide +kernel
theorem dX8_see_68 : decode cX8_see 68 = .ok (.iadd, 1) := by decide +kernel
theorem dX8_see_69 : decode cX8_see 69 = .ok (.putfield 78, 3) := by decide +kernel
theorem dX8_see_72 : decode cX8_see 72 = .ok (.aload_n 0, 1) := by decide +kernel
theorem dX8_see_73 : decode cX8_see 73 = .ok (.getfield 78, 3) := by decide +kernel
theorem dX8_see_76 : decode cX8_see 76 = .ok (.ireturn, 1) := by decide +kernel
theorem dX8_forget_0 : decode cX8_forget 0 = .ok (.aload_n 0, 1) := by decide +kernel
theorem dX8_forget_1 : decode cX8_forget 1 = .ok (.getfield 78, 3) := by decide +kernel
theorem dX8_forget_4 : decode cX8_forget 4 = .ok (.istore_n 1, 1) := by decide +kernel
theorem dX8_forget_5 : decode cX8_forget 5 = .ok (.aload_n 0, 1) := by decide +kernel
theorem dX8_forget_6 : decode cX8_forget 6 = .ok (.iconst 0, 1) := by decide +kernel
theorem dX8_forget_7 : decode cX8_forget 7 = .ok (.putfield 78, 3) := by decide +kernel
theorem dX8_forget_10 : decode cX8_forget 10 = .ok (.iload_n 1, 1) := by decide +kernel
theorem dX8_forget_11 : decode cX8_forget 11 = .ok (.ireturn, 1) := by decide +kernel
theorem dX8_seed_0 : decode cX8_seed 0 = .ok (.iload_n 1, 1) := by decide +kernel
theorem dX8_seed_1 : decode cX8_seed 1 = .ok (.ifCond .ge 6, 3) := by decide +kernel
theorem dX8_seed_4 : decode cX8_seed 4 = .ok (.ldc 118, 2) := by decide +kernel
theorem dX8_seed_6 : decode cX8_seed 6 = .ok (.ireturn, 1) := by decide +kernel
theorem dX8_seed_7 : decode cX8_seed 7 = .ok (.aload_n 0, 1) := by decide +kernel
theorem dX8_seed_8 : decode cX8_seed 8 = .ok (.getfield 44, 3) := by decide +kernel
theorem dX8_seed_11 : decode cX8_seed 11 = .ok (.istore_n 2, 1) := by decide +kernel
theorem dX8_seed_12 : decode cX8_seed 12 = .ok (.aload_n 0, 1) := by decide +kernel
theorem dX8_seed_13 : decode cX8_seed 13 = .ok (.iload_n 1, 1) := by decide +kernel
theorem dX8_seed_14 : decode cX8_seed 14 = .ok (.putfield 44, 3) := by decide +kernel
theorem dX8_seed_17 : decode cX8_seed 17 = .ok (.iload_n 2, 1) := by decide +kernel
theorem dX8_seed_18 : decode cX8_seed 18 = .ok (.ireturn, 1) := by decide +kernel
theorem dX8_keep_0 : decode cX8_keep 0 = .ok (.iload_n 1, 1) := by decide +kernel
theorem dX8_keep_1 : decode cX8_keep 1 = .ok (.i2l, 1) := by decide +kernel
theorem dX8_keep_2 : decode cX8_keep 2 = .ok (.lconst 0, 1) := by decide +kernel
theorem dX8_keep_3 : decode cX8_keep 3 = .ok (.lconst 1, 1) := by decide +kernel
theorem dX8_keep_4 : decode cX8_keep 4 = .ok (.invokestatic 50, 3) := by decide +kernel
theorem dX8_keep_7 : decode cX8_keep 7 = .ok (.ifCond .ne 6, 3) := by decide +kernel
theorem dX8_keep_10 : decode cX8_keep 10 = .ok (.ldc 128, 2) := by decide +kernel
theorem dX8_keep_12 : decode cX8_keep 12 = .ok (.ireturn, 1) := by decide +kernel
theorem dX8_keep_13 : decode cX8_keep 13 = .ok (.aload_n 0, 1) := by decide +kernel
theorem dX8_keep_14 : decode cX8_keep 14 = .ok (.iconst 0, 1) := by decide +kernel
theorem dX8_keep_15 : decode cX8_keep 15 = .ok (.sipush 275, 3) := by decide +kernel
theorem dX8_keep_18 : decode cX8_keep 18 = .ok (.sipush 275, 3) := by decide +kernel
theorem dX8_keep_21 : decode cX8_keep 21 = .ok (.iload_n 1, 1) := by decide +kernel
theorem dX8_keep_22 : decode cX8_keep 22 = .ok (.imul, 1) := by decide +kernel
theorem dX8_keep_23 : decode cX8_keep 23 = .ok (.iadd, 1) := by decide +kernel
theorem dX8_keep_24 : decode cX8_keep 24 = .ok (.invokevirtual 150, 3) := by decide +kernel
theorem dX8_keep_27 : decode cX8_keep 27 = .ok (.aload_n 0, 1) := by decide +kernel
theorem dX8_keep_28 : decode cX8_keep 28 = .ok (.getfield 17, 3) := by decide +kernel
theorem dX8_keep_31 : decode cX8_keep 31 = .ok (.iload_n 1, 1) := by decide +kernel
theorem dX8_keep_32 : decode cX8_keep 32 = .ok (.aload_n 0, 1) := by decide +kernel
theorem dX8_keep_33 : decode cX8_keep 33 = .ok (.getfield 44, 3) := by decide +kernel
theorem dX8_keep_36 : decode cX8_keep 36 = .ok (.iastore, 1) := by decide +kernel
theorem dX8_keep_37 : decode cX8_keep 37 = .ok (.aload_n 0, 1) := by decide +kernel
theorem dX8_keep_38 : decode cX8_keep 38 = .ok (.getfield 13, 3) := by decide +kernel
theorem dX8_keep_41 : decode cX8_keep 41 = .ok (.iload_n 1, 1) := by decide +kernel
theorem dX8_keep_42 : decode cX8_keep 42 = .ok (.iconst 1, 1) := by decide +kernel
theorem dX8_keep_43 : decode cX8_keep 43 = .ok (.bastore, 1) := by decide +kernel
theorem dX8_keep_44 : decode cX8_keep 44 = .ok (.aload_n 0, 1) := by decide +kernel
theorem dX8_keep_45 : decode cX8_keep 45 = .ok (.iconst 0, 1) := by decide +kernel
theorem dX8_keep_46 : decode cX8_keep 46 = .ok (.putfield 115, 3) := by decide +kernel
theorem dX8_keep_49 : decode cX8_keep 49 = .ok (.iconst 1, 1) := by decide +kernel
theorem dX8_keep_50 : decode cX8_keep 50 = .ok (.ireturn, 1) := by decide +kernel
theorem dX8_goBack_0 : decode cX8_goBack 0 = .ok (.iload_n 1, 1) := by decide +kernel
theorem dX8_goBack_1 : decode cX8_goBack 1 = .ok (.i2l, 1) := by decide +kernel
theorem dX8_goBack_2 : decode cX8_goBack 2 = .ok (.lconst 0, 1) := by decide +kernel
theorem dX8_goBack_3 : decode cX8_goBack 3 = .ok (.lconst 1, 1) := by decide +kernel
theorem dX8_goBack_4 : decode cX8_goBack 4 = .ok (.invokestatic 50, 3) := by decide +kernel
theorem dX8_goBack_7 : decode cX8_goBack 7 = .ok (.ifCond .ne 6, 3) := by decide +kernel
theorem dX8_goBack_10 : decode cX8_goBack 10 = .ok (.ldc 128, 2) := by decide +kernel
theorem dX8_goBack_12 : decode cX8_goBack 12 = .ok (.ireturn, 1) := by decide +kernel
theorem dX8_goBack_13 : decode cX8_goBack 13 = .ok (.aload_n 0, 1) := by decide +kernel
theorem dX8_goBack_14 : decode cX8_goBack 14 = .ok (.getfield 13, 3) := by decide +kernel
theorem dX8_goBack_17 : decode cX8_goBack 17 = .ok (.iload_n 1, 1) := by decide +kernel
theorem dX8_goBack_18 : decode cX8_goBack 18 = .ok (.baload, 1) := by decide +kernel
theorem dX8_goBack_19 : decode cX8_goBack 19 = .ok (.ifCond .ne 6, 3) := by decide +kernel
theorem dX8_goBack_22 : decode cX8_goBack 22 = .ok (.ldc 176, 2) := by decide +kernel
theorem dX8_goBack_24 : decode cX8_goBack 24 = .ok (.ireturn, 1) := by decide +kernel
theorem dX8_goBack_25 : decode cX8_goBack 25 = .ok (.aload_n 0, 1) := by decide +kernel
theorem dX8_goBack_26 : decode cX8_goBack 26 = .ok (.sipush 275, 3) := by decide +kernel
theorem dX8_goBack_29 : decode cX8_goBack 29 = .ok (.sipush 275, 3) := by decide +kernel
theorem dX8_goBack_32 : decode cX8_goBack 32 = .ok (.iload_n 1, 1) := by decide +kernel
theorem dX8_goBack_33 : decode cX8_goBack 33 = .ok (.imul, 1) := by decide +kernel
theorem dX8_goBack_34 : decode cX8_goBack 34 = .ok (.iadd, 1) := by decide +kernel
theorem dX8_goBack_35 : decode cX8_goBack 35 = .ok (.iconst 0, 1) := by decide +kernel
theorem dX8_goBack_36 : decode cX8_goBack 36 = .ok (.invokevirtual 150, 3) := by decide +kernel
theorem dX8_goBack_39 : decode cX8_goBack 39 = .ok (.aload_n 0, 1) := by decide +kernel
theorem dX8_goBack_40 : decode cX8_goBack 40 = .ok (.aload_n 0, 1) := by decide +kernel
theorem dX8_goBack_41 : decode cX8_goBack 41 = .ok (.getfield 17, 3) := by decide +kernel
theorem dX8_goBack_44 : decode cX8_goBack 44 = .ok (.iload_n 1, 1) := by decide +kernel
theorem dX8_goBack_45 : decode cX8_goBack 45 = .ok (.iaload, 1) := by decide +kernel
theorem dX8_goBack_46 : decode cX8_goBack 46 = .ok (.putfield 44, 3) := by decide +kernel
theorem dX8_goBack_49 : decode cX8_goBack 49 = .ok (.aload_n 0, 1) := by decide +kernel
theorem dX8_goBack_50 : decode cX8_goBack 50 = .ok (.iconst 0, 1) := by decide +kernel
theorem dX8_goBack_51 : decode cX8_goBack 51 = .ok (.putfield 115, 3) := by decide +kernel
theorem dX8_goBack_54 : decode cX8_goBack 54 = .ok (.aload_n 0, 1) := by decide +kernel
theorem dX8_goBack_55 : decode cX8_goBack 55 = .ok (.getfield 7, 3) := by decide +kernel
theorem dX8_goBack_58 : decode cX8_goBack 58 = .ok (.bipush 82, 2) := by decide +kernel
theorem dX8_goBack_60 : decode cX8_goBack 60 = .ok (.iconst 0, 1) := by decide +kernel
theorem dX8_goBack_61 : decode cX8_goBack 61 = .ok (.iastore, 1) := by decide +kernel
theorem dX8_goBack_62 : decode cX8_goBack 62 = .ok (.iconst 0, 1) := by decide +kernel
theorem dX8_goBack_63 : decode cX8_goBack 63 = .ok (.istore_n 2, 1) := by decide +kernel
theorem dX8_goBack_64 : decode cX8_goBack 64 = .ok (.iload_n 2, 1) := by decide +kernel
theorem dX8_goBack_65 : decode cX8_goBack 65 = .ok (.aload_n 0, 1) := by decide +kernel
theorem dX8_goBack_66 : decode cX8_goBack 66 = .ok (.getfield 7, 3) := by decide +kernel
theorem dX8_goBack_69 : decode cX8_goBack 69 = .ok (.bipush 8, 2) := by decide +kernel
theorem dX8_goBack_71 : decode cX8_goBack 71 = .ok (.iaload, 1) := by decide +kernel
theorem dX8_goBack_72 : decode cX8_goBack 72 = .ok (.if_icmp .ge 31, 3) := by decide +kernel
theorem dX8_goBack_75 : decode cX8_goBack 75 = .ok (.aload_n 0, 1) := by decide +kernel
theorem dX8_goBack_76 : decode cX8_goBack 76 = .ok (.aload_n 0, 1) := by decide +kernel
theorem dX8_goBack_77 : decode cX8_goBack 77 = .ok (.getfield 7, 3) := by decide +kernel
theorem dX8_goBack_80 : decode cX8_goBack 80 = .ok (.bipush 9, 2) := by decide +kernel
theorem dX8_goBack_82 : decode cX8_goBack 82 = .ok (.iload_n 2, 1) := by decide +kernel
theorem dX8_goBack_83 : decode cX8_goBack 83 = .ok (.iadd, 1) := by decide +kernel
theorem dX8_goBack_84 : decode cX8_goBack 84 = .ok (.iaload, 1) := by decide +kernel
theorem dX8_goBack_85 : decode cX8_goBack 85 = .ok (.aload_n 0, 1) := by decide +kernel
theorem dX8_goBack_86 : decode cX8_goBack 86 = .ok (.getfield 7, 3) := by decide +kernel
theorem dX8_goBack_89 : decode cX8_goBack 89 = .ok (.bipush 33, 2) := by decide +kernel
theorem dX8_goBack_91 : decode cX8_goBack 91 = .ok (.iload_n 2, 1) := by decide +kernel
theorem dX8_goBack_92 : decode cX8_goBack 92 = .ok (.iadd, 1) := by decide +kernel
theorem dX8_goBack_93 : decode cX8_goBack 93 = .ok (.iaload, 1) := by decide +kernel
theorem dX8_goBack_94 : decode cX8_goBack 94 = .ok (.invokevirtual 154, 3) := by decide +kernel
theorem dX8_goBack_97 : decode cX8_goBack 97 = .ok (.iinc 2 1, 3) := by decide +kernel
theorem dX8_goBack_100 : decode cX8_goBack 100 = .ok (.goto (-36), 3) := by decide +kernel
theorem dX8_goBack_103 : decode cX8_goBack 103 = .ok (.iconst 0, 1) := by decide +kernel
theorem dX8_goBack_104 : decode cX8_goBack 104 = .ok (.istore_n 2, 1) := by decide +kernel
theorem dX8_goBack_105 : decode cX8_goBack 105 = .ok (.iload_n 2, 1) := by decide +kernel
theorem dX8_goBack_106 : decode cX8_goBack 106 = .ok (.aload_n 0, 1) := by decide +kernel
theorem dX8_goBack_107 : decode cX8_goBack 107 = .ok (.getfield 7, 3) := by decide +kernel
theorem dX8_goBack_110 : decode cX8_goBack 110 = .ok (.bipush 57, 2) := by decide +kernel
theorem dX8_goBack_112 : decode cX8_goBack 112 = .ok (.iaload, 1) := by decide +kernel
theorem dX8_goBack_113 : decode cX8_goBack 113 = .ok (.if_icmp .ge 23, 3) := by decide +kernel
theorem dX8_goBack_116 : decode cX8_goBack 116 = .ok (.aload_n 0, 1) := by decide +kernel
theorem dX8_goBack_117 : decode cX8_goBack 117 = .ok (.iconst 4, 1) := by decide +kernel
theorem dX8_goBack_118 : decode cX8_goBack 118 = .ok (.aload_n 0, 1) := by decide +kernel
theorem dX8_goBack_119 : decode cX8_goBack 119 = .ok (.getfield 7, 3) := by decide +kernel
theorem dX8_goBack_122 : decode cX8_goBack 122 = .ok (.bipush 58, 2) := by decide +kernel
theorem dX8_goBack_124 : decode cX8_goBack 124 = .ok (.iload_n 2, 1) := by decide +kernel
theorem dX8_goBack_125 : decode cX8_goBack 125 = .ok (.iadd, 1) := by decide +kernel
theorem dX8_goBack_126 : decode cX8_goBack 126 = .ok (.iaload, 1) := by decide +kernel
theorem dX8_goBack_127 : decode cX8_goBack 127 = .ok (.invokevirtual 154, 3) := by decide +kernel
theorem dX8_goBack_130 : decode cX8_goBack 130 = .ok (.iinc 2 1, 3) := by decide +kernel
theorem dX8_goBack_133 : decode cX8_goBack 133 = .ok (.goto (-28), 3) := by decide +kernel
theorem dX8_goBack_136 : decode cX8_goBack 136 = .ok (.iconst 1, 1) := by decide +kernel
theorem dX8_goBack_137 : decode cX8_goBack 137 = .ok (.ireturn, 1) := by decide +kernel
theorem dJ9_floorMod_7cf53_0 : decode cJ9_floorMod_7cf53 0 = .ok (.iload_n 0, 1) := by decide +kernel
theorem dJ9_floorMod_7cf53_1 : decode cJ9_floorMod_7cf53 1 = .ok (.iload_n 1, 1) := by decide +kernel
theorem dJ9_floorMod_7cf53_2 : decode cJ9_floorMod_7cf53 2 = .ok (.irem, 1) := by decide +kernel
theorem dJ9_floorMod_7cf53_3 : decode cJ9_floorMod_7cf53 3 = .ok (.istore_n 2, 1) := by decide +kernel
theorem dJ9_floorMod_7cf53_4 : decode cJ9_floorMod_7cf53 4 = .ok (.iload_n 0, 1) := by decide +kernel
theorem dJ9_floorMod_7cf53_5 : decode cJ9_floorMod_7cf53 5 = .ok (.iload_n 1, 1) := by decide +kernel
theorem dJ9_floorMod_7cf53_6 : decode cJ9_floorMod_7cf53 6 = .ok (.ixor, 1) := by decide +kernel
theorem dJ9_floorMod_7cf53_7 : decode cJ9_floorMod_7cf53 7 = .ok (.ifCond .ge 11, 3) := by decide +kernel
theorem dJ9_floorMod_7cf53_10 : decode cJ9_floorMod_7cf53 10 = .ok (.iload_n 2, 1) := by decide +kernel
theorem dJ9_floorMod_7cf53_11 : decode cJ9_floorMod_7cf53 11 = .ok (.ifCond .eq 7, 3) := by decide +kernel
theorem dJ9_floorMod_7cf53_14 : decode cJ9_floorMod_7cf53 14 = .ok (.iload_n 2, 1) := by decide +kernel
theorem dJ9_floorMod_7cf53_15 : decode cJ9_floorMod_7cf53 15 = .ok (.iload_n 1, 1) := by decide +kernel
theorem dJ9_floorMod_7cf53_16 : decode cJ9_floorMod_7cf53 16 = .ok (.iadd, 1) := by decide +kernel
theorem dJ9_floorMod_7cf53_17 : decode cJ9_floorMod_7cf53 17 = .ok (.ireturn, 1) := by decide +kernel
theorem dJ9_floorMod_7cf53_18 : decode cJ9_floorMod_7cf53 18 = .ok (.iload_n 2, 1) := by decide +kernel
theorem dJ9_floorMod_7cf53_19 : decode cJ9_floorMod_7cf53 19 = .ok (.ireturn, 1) := by decide +kernel
theorem dJ9_max_7cf53_0 : decode cJ9_max_7cf53 0 = .ok (.iload_n 0, 1) := by decide +kernel
theorem dJ9_max_7cf53_1 : decode cJ9_max_7cf53 1 = .ok (.iload_n 1, 1) := by decide +kernel
theorem dJ9_max_7cf53_2 : decode cJ9_max_7cf53 2 = .ok (.if_icmp .lt 7, 3) := by decide +kernel
theorem dJ9_max_7cf53_5 : decode cJ9_max_7cf53 5 = .ok (.iload_n 0, 1) := by decide +kernel
theorem dJ9_max_7cf53_6 : decode cJ9_max_7cf53 6 = .ok (.goto 4, 3) := by decide +kernel
theorem dJ9_max_7cf53_9 : decode cJ9_max_7cf53 9 = .ok (.iload_n 1, 1) := by decide +kernel
theorem dJ9_max_7cf53_10 : decode cJ9_max_7cf53 10 = .ok (.ireturn, 1) := by decide +kernel
theorem dJ9_min_7cf53_0 : decode cJ9_min_7cf53 0 = .ok (.iload_n 0, 1) := by decide +kernel
theorem dJ9_min_7cf53_1 : decode cJ9_min_7cf53 1 = .ok (.iload_n 1, 1) := by decide +kernel
theorem dJ9_min_7cf53_2 : decode cJ9_min_7cf53 2 = .ok (.if_icmp .gt 7, 3) := by decide +kernel
theorem dJ9_min_7cf53_5 : decode cJ9_min_7cf53 5 = .ok (.iload_n 0, 1) := by decide +kernel
theorem dJ9_min_7cf53_6 : decode cJ9_min_7cf53 6 = .ok (.goto 4, 3) := by decide +kernel
theorem dJ9_min_7cf53_9 : decode cJ9_min_7cf53 9 = .ok (.iload_n 1, 1) := by decide +kernel
theorem dJ9_min_7cf53_10 : decode cJ9_min_7cf53 10 = .ok (.ireturn, 1) := by decide +kernel
theorem dL_law_0 : decode cL_law 0 = .ok (.new 7, 3) := by decide +kernel
theorem dL_law_3 : decode cL_law 3 = .ok (.dup, 1) := by decide +kernel
theorem dL_law_4 : decode cL_law 4 = .ok (.invokespecial 9, 3) := by decide +kernel
theorem dL_law_7 : decode cL_law 7 = .ok (.astore_n 1, 1) := by decide +kernel
theorem dL_law_8 : decode cL_law 8 = .ok (.new 10, 3) := by decide +kernel
theorem dL_law_11 : decode cL_law 11 = .ok (.dup, 1) := by decide +kernel
theorem dL_law_12 : decode cL_law 12 = .ok (.invokespecial 12, 3) := by decide +kernel
theorem dL_law_15 : decode cL_law 15 = .ok (.astore_n 2, 1) := by decide +kernel
theorem dL_law_16 : decode cL_law 16 = .ok (.iconst 0, 1) := by decide +kernel
theorem dL_law_17 : decode cL_law 17 = .ok (.istore_n 3, 1) := by decide +kernel
theorem dL_law_18 : decode cL_law 18 = .ok (.iload_n 3, 1) := by decide +kernel
theorem dL_law_19 : decode cL_law 19 = .ok (.aload_n 0, 1) := by decide +kernel
theorem dL_law_20 : decode cL_law 20 = .ok (.arraylength, 1) := by decide +kernel
theorem dL_law_21 : decode cL_law 21 = .ok (.iconst 4, 1) := by decide +kernel
theorem dL_law_22 : decode cL_law 22 = .ok (.isub, 1) := by decide +kernel
theorem dL_law_23 : decode cL_law 23 = .ok (.if_icmp .gt 738, 3) := by decide +kernel
theorem dL_law_26 : decode cL_law 26 = .ok (.aload_n 0, 1) := by decide +kernel
theorem dL_law_27 : decode cL_law 27 = .ok (.iload_n 3, 1) := by decide +kernel
theorem dL_law_28 : decode cL_law 28 = .ok (.iaload, 1) := by decide +kernel
theorem dL_law_29 : decode cL_law 29 = .ok (.bipush 31, 2) := by decide +kernel
theorem dL_law_31 : decode cL_law 31 = .ok (.iand, 1) := by decide +kernel
theorem dL_law_32 : decode cL_law 32 = .ok (.tableswitch 723 0 22 #[108, 131, 164, 197, 230, 263, 296, 329, 352, 375, 398, 441, 454, 477, 490, 513, 536, 559, 582, 641, 654, 677, 700], 108) := by decide +kernel
theorem dL_law_140 : decode cL_law 140 = .ok (.aload_n 1, 1) := by decide +kernel
theorem dL_law_141 : decode cL_law 141 = .ok (.aload_n 0, 1) := by decide +kernel
theorem dL_law_142 : decode cL_law 142 = .ok (.iload_n 3, 1) := by decide +kernel
theorem dL_law_143 : decode cL_law 143 = .ok (.iconst 1, 1) := by decide +kernel
theorem dL_law_144 : decode cL_law 144 = .ok (.iadd, 1) := by decide +kernel
theorem dL_law_145 : decode cL_law 145 = .ok (.iaload, 1) := by decide +kernel
theorem dL_law_146 : decode cL_law 146 = .ok (.invokevirtual 13, 3) := by decide +kernel
theorem dL_law_149 : decode cL_law 149 = .ok (.aload_n 2, 1) := by decide +kernel
theorem dL_law_150 : decode cL_law 150 = .ok (.aload_n 0, 1) := by decide +kernel
theorem dL_law_151 : decode cL_law 151 = .ok (.iload_n 3, 1) := by decide +kernel
theorem dL_law_152 : decode cL_law 152 = .ok (.iconst 1, 1) := by decide +kernel
theorem dL_law_153 : decode cL_law 153 = .ok (.iadd, 1) := by decide +kernel
theorem dL_law_154 : decode cL_law 154 = .ok (.iaload, 1) := by decide +kernel
theorem dL_law_155 : decode cL_law 155 = .ok (.invokevirtual 17, 3) := by decide +kernel
theorem dL_law_158 : decode cL_law 158 = .ok (.if_icmp .eq 597, 3) := by decide +kernel
theorem dL_law_161 : decode cL_law 161 = .ok (.iconst 0, 1) := by decide +kernel
theorem dL_law_162 : decode cL_law 162 = .ok (.ireturn, 1) := by decide +kernel
theorem dL_law_163 : decode cL_law 163 = .ok (.aload_n 1, 1) := by decide +kernel
theorem dL_law_164 : decode cL_law 164 = .ok (.aload_n 0, 1) := by decide +kernel
theorem dL_law_165 : decode cL_law 165 = .ok (.iload_n 3, 1) := by decide +kernel
theorem dL_law_166 : decode cL_law 166 = .ok (.iconst 1, 1) := by decide +kernel
theorem dL_law_167 : decode cL_law 167 = .ok (.iadd, 1) := by decide +kernel
theorem dL_law_168 : decode cL_law 168 = .ok (.iaload, 1) := by decide +kernel
theorem dL_law_169 : decode cL_law 169 = .ok (.aload_n 0, 1) := by decide +kernel
theorem dL_law_170 : decode cL_law 170 = .ok (.iload_n 3, 1) := by decide +kernel
theorem dL_law_171 : decode cL_law 171 = .ok (.iconst 2, 1) := by decide +kernel
theorem dL_law_172 : decode cL_law 172 = .ok (.iadd, 1) := by decide +kernel
theorem dL_law_173 : decode cL_law 173 = .ok (.iaload, 1) := by decide +kernel
theorem dL_law_174 : decode cL_law 174 = .ok (.invokevirtual 18, 3) := by decide +kernel
theorem dL_law_177 : decode cL_law 177 = .ok (.aload_n 2, 1) := by decide +kernel
theorem dL_law_178 : decode cL_law 178 = .ok (.aload_n 0, 1) := by decide +kernel
theorem dL_law_179 : decode cL_law 179 = .ok (.iload_n 3, 1) := by decide +kernel
theorem dL_law_180 : decode cL_law 180 = .ok (.iconst 1, 1) := by decide +kernel
theorem dL_law_181 : decode cL_law 181 = .ok (.iadd, 1) := by decide +kernel
theorem dL_law_182 : decode cL_law 182 = .ok (.iaload, 1) := by decide +kernel
theorem dL_law_183 : decode cL_law 183 = .ok (.aload_n 0, 1) := by decide +kernel
theorem dL_law_184 : decode cL_law 184 = .ok (.iload_n 3, 1) := by decide +kernel
theorem dL_law_185 : decode cL_law 185 = .ok (.iconst 2, 1) := by decide +kernel
theorem dL_law_186 : decode cL_law 186 = .ok (.iadd, 1) := by decide +kernel
theorem dL_law_187 : decode cL_law 187 = .ok (.iaload, 1) := by decide +kernel
theorem dL_law_188 : decode cL_law 188 = .ok (.invokevirtual 22, 3) := by decide +kernel
theorem dL_law_191 : decode cL_law 191 = .ok (.if_icmp .eq 564, 3) := by decide +kernel
theorem dL_law_194 : decode cL_law 194 = .ok (.iconst 0, 1) := by decide +kernel
theorem dL_law_195 : decode cL_law 195 = .ok (.ireturn, 1) := by decide +kernel
theorem dL_law_196 : decode cL_law 196 = .ok (.aload_n 1, 1) := by decide +kernel
theorem dL_law_197 : decode cL_law 197 = .ok (.aload_n 0, 1) := by decide +kernel
theorem dL_law_198 : decode cL_law 198 = .ok (.iload_n 3, 1) := by decide +kernel
theorem dL_law_199 : decode cL_law 199 = .ok (.iconst 1, 1) := by decide +kernel
theorem dL_law_200 : decode cL_law 200 = .ok (.iadd, 1) := by decide +kernel
theorem dL_law_201 : decode cL_law 201 = .ok (.iaload, 1) := by decide +kernel
theorem dL_law_202 : decode cL_law 202 = .ok (.aload_n 0, 1) := by decide +kernel
theorem dL_law_203 : decode cL_law 203 = .ok (.iload_n 3, 1) := by decide +kernel
theorem dL_law_204 : decode cL_law 204 = .ok (.iconst 2, 1) := by decide +kernel
theorem dL_law_205 : decode cL_law 205 = .ok (.iadd, 1) := by decide +kernel
theorem dL_law_206 : decode cL_law 206 = .ok (.iaload, 1) := by decide +kernel
theorem dL_law_207 : decode cL_law 207 = .ok (.invokevirtual 23, 3) := by decide +kernel
theorem dL_law_210 : decode cL_law 210 = .ok (.aload_n 2, 1) := by decide +kernel
theorem dL_law_211 : decode cL_law 211 = .ok (.aload_n 0, 1) := by decide +kernel
theorem dL_law_212 : decode cL_law 212 = .ok (.iload_n 3, 1) := by decide +kernel
theorem dL_law_213 : decode cL_law 213 = .ok (.iconst 1, 1) := by decide +kernel
theorem dL_law_214 : decode cL_law 214 = .ok (.iadd, 1) := by decide +kernel
theorem dL_law_215 : decode cL_law 215 = .ok (.iaload, 1) := by decide +kernel
theorem dL_law_216 : decode cL_law 216 = .ok (.aload_n 0, 1) := by decide +kernel
theorem dL_law_217 : decode cL_law 217 = .ok (.iload_n 3, 1) := by decide +kernel
theorem dL_law_218 : decode cL_law 218 = .ok (.iconst 2, 1) := by decide +kernel
theorem dL_law_219 : decode cL_law 219 = .ok (.iadd, 1) := by decide +kernel
theorem dL_law_220 : decode cL_law 220 = .ok (.iaload, 1) := by decide +kernel
theorem dL_law_221 : decode cL_law 221 = .ok (.invokevirtual 26, 3) := by decide +kernel
theorem dL_law_224 : decode cL_law 224 = .ok (.if_icmp .eq 531, 3) := by decide +kernel
theorem dL_law_227 : decode cL_law 227 = .ok (.iconst 0, 1) := by decide +kernel
theorem dL_law_228 : decode cL_law 228 = .ok (.ireturn, 1) := by decide +kernel
theorem dL_law_229 : decode cL_law 229 = .ok (.aload_n 1, 1) := by decide +kernel
theorem dL_law_230 : decode cL_law 230 = .ok (.aload_n 0, 1) := by decide +kernel
theorem dL_law_231 : decode cL_law 231 = .ok (.iload_n 3, 1) := by decide +kernel
theorem dL_law_232 : decode cL_law 232 = .ok (.iconst 1, 1) := by decide +kernel
theorem dL_law_233 : decode cL_law 233 = .ok (.iadd, 1) := by decide +kernel
theorem dL_law_234 : decode cL_law 234 = .ok (.iaload, 1) := by decide +kernel
theorem dL_law_235 : decode cL_law 235 = .ok (.aload_n 0, 1) := by decide +kernel
theorem dL_law_236 : decode cL_law 236 = .ok (.iload_n 3, 1) := by decide +kernel
theorem dL_law_237 : decode cL_law 237 = .ok (.iconst 2, 1) := by decide +kernel
theorem dL_law_238 : decode cL_law 238 = .ok (.iadd, 1) := by decide +kernel
theorem dL_law_239 : decode cL_law 239 = .ok (.iaload, 1) := by decide +kernel
theorem dL_law_240 : decode cL_law 240 = .ok (.invokevirtual 27, 3) := by decide +kernel
theorem dL_law_243 : decode cL_law 243 = .ok (.aload_n 2, 1) := by decide +kernel
theorem dL_law_244 : decode cL_law 244 = .ok (.aload_n 0, 1) := by decide +kernel
theorem dL_law_245 : decode cL_law 245 = .ok (.iload_n 3, 1) := by decide +kernel
theorem dL_law_246 : decode cL_law 246 = .ok (.iconst 1, 1) := by decide +kernel
theorem dL_law_247 : decode cL_law 247 = .ok (.iadd, 1) := by decide +kernel
theorem dL_law_248 : decode cL_law 248 = .ok (.iaload, 1) := by decide +kernel
theorem dL_law_249 : decode cL_law 249 = .ok (.aload_n 0, 1) := by decide +kernel
theorem dL_law_250 : decode cL_law 250 = .ok (.iload_n 3, 1) := by decide +kernel
theorem dL_law_251 : decode cL_law 251 = .ok (.iconst 2, 1) := by decide +kernel
theorem dL_law_252 : decode cL_law 252 = .ok (.iadd, 1) := by decide +kernel
theorem dL_law_253 : decode cL_law 253 = .ok (.iaload, 1) := by decide +kernel
theorem dL_law_254 : decode cL_law 254 = .ok (.invokevirtual 30, 3) := by decide +kernel
theorem dL_law_257 : decode cL_law 257 = .ok (.if_icmp .eq 498, 3) := by decide +kernel
theorem dL_law_260 : decode cL_law 260 = .ok (.iconst 0, 1) := by decide +kernel
theorem dL_law_261 : decode cL_law 261 = .ok (.ireturn, 1) := by decide +kernel
theorem dL_law_262 : decode cL_law 262 = .ok (.aload_n 1, 1) := by decide +kernel
theorem dL_law_263 : decode cL_law 263 = .ok (.aload_n 0, 1) := by decide +kernel
theorem dL_law_264 : decode cL_law 264 = .ok (.iload_n 3, 1) := by decide +kernel
theorem dL_law_265 : decode cL_law 265 = .ok (.iconst 1, 1) := by decide +kernel
theorem dL_law_266 : decode cL_law 266 = .ok (.iadd, 1) := by decide +kernel
theorem dL_law_267 : decode cL_law 267 = .ok (.iaload, 1) := by decide +kernel
theorem dL_law_268 : decode cL_law 268 = .ok (.aload_n 0, 1) := by decide +kernel
theorem dL_law_269 : decode cL_law 269 = .ok (.iload_n 3, 1) := by decide +kernel
theorem dL_law_270 : decode cL_law 270 = .ok (.iconst 2, 1) := by decide +kernel
theorem dL_law_271 : decode cL_law 271 = .ok (.iadd, 1) := by decide +kernel
theorem dL_law_272 : decode cL_law 272 = .ok (.iaload, 1) := by decide +kernel
theorem dL_law_273 : decode cL_law 273 = .ok (.invokevirtual 31, 3) := by decide +kernel
theorem dL_law_276 : decode cL_law 276 = .ok (.aload_n 2, 1) := by decide +kernel
theorem dL_law_277 : decode cL_law 277 = .ok (.aload_n 0, 1) := by decide +kernel
theorem dL_law_278 : decode cL_law 278 = .ok (.iload_n 3, 1) := by decide +kernel
theorem dL_law_279 : decode cL_law 279 = .ok (.iconst 1, 1) := by decide +kernel
theorem dL_law_280 : decode cL_law 280 = .ok (.iadd, 1) := by decide +kernel
theorem dL_law_281 : decode cL_law 281 = .ok (.iaload, 1) := by decide +kernel
theorem dL_law_282 : decode cL_law 282 = .ok (.aload_n 0, 1) := by decide +kernel
theorem dL_law_283 : decode cL_law 283 = .ok (.iload_n 3, 1) := by decide +kernel
theorem dL_law_284 : decode cL_law 284 = .ok (.iconst 2, 1) := by decide +kernel
theorem dL_law_285 : decode cL_law 285 = .ok (.iadd, 1) := by decide +kernel
theorem dL_law_286 : decode cL_law 286 = .ok (.iaload, 1) := by decide +kernel
theorem dL_law_287 : decode cL_law 287 = .ok (.invokevirtual 34, 3) := by decide +kernel
theorem dL_law_290 : decode cL_law 290 = .ok (.if_icmp .eq 465, 3) := by decide +kernel
theorem dL_law_293 : decode cL_law 293 = .ok (.iconst 0, 1) := by decide +kernel
theorem dL_law_294 : decode cL_law 294 = .ok (.ireturn, 1) := by decide +kernel
theorem dL_law_295 : decode cL_law 295 = .ok (.aload_n 1, 1) := by decide +kernel
theorem dL_law_296 : decode cL_law 296 = .ok (.aload_n 0, 1) := by decide +kernel
theorem dL_law_297 : decode cL_law 297 = .ok (.iload_n 3, 1) := by decide +kernel
theorem dL_law_298 : decode cL_law 298 = .ok (.iconst 1, 1) := by decide +kernel
theorem dL_law_299 : decode cL_law 299 = .ok (.iadd, 1) := by decide +kernel
theorem dL_law_300 : decode cL_law 300 = .ok (.iaload, 1) := by decide +kernel
theorem dL_law_301 : decode cL_law 301 = .ok (.aload_n 0, 1) := by decide +kernel
theorem dL_law_302 : decode cL_law 302 = .ok (.iload_n 3, 1) := by decide +kernel
theorem dL_law_303 : decode cL_law 303 = .ok (.iconst 2, 1) := by decide +kernel
theorem dL_law_304 : decode cL_law 304 = .ok (.iadd, 1) := by decide +kernel
theorem dL_law_305 : decode cL_law 305 = .ok (.iaload, 1) := by decide +kernel
theorem dL_law_306 : decode cL_law 306 = .ok (.invokevirtual 35, 3) := by decide +kernel
theorem dL_law_309 : decode cL_law 309 = .ok (.aload_n 2, 1) := by decide +kernel
theorem dL_law_310 : decode cL_law 310 = .ok (.aload_n 0, 1) := by decide +kernel
theorem dL_law_311 : decode cL_law 311 = .ok (.iload_n 3, 1) := by decide +kernel
theorem dL_law_312 : decode cL_law 312 = .ok (.iconst 1, 1) := by decide +kernel
theorem dL_law_313 : decode cL_law 313 = .ok (.iadd, 1) := by decide +kernel
theorem dL_law_314 : decode cL_law 314 = .ok (.iaload, 1) := by decide +kernel
theorem dL_law_315 : decode cL_law 315 = .ok (.aload_n 0, 1) := by decide +kernel
theorem dL_law_316 : decode cL_law 316 = .ok (.iload_n 3, 1) := by decide +kernel
theorem dL_law_317 : decode cL_law 317 = .ok (.iconst 2, 1) := by decide +kernel
theorem dL_law_318 : decode cL_law 318 = .ok (.iadd, 1) := by decide +kernel
theorem dL_law_319 : decode cL_law 319 = .ok (.iaload, 1) := by decide +kernel
theorem dL_law_320 : decode cL_law 320 = .ok (.invokevirtual 38, 3) := by decide +kernel
theorem dL_law_323 : decode cL_law 323 = .ok (.if_icmp .eq 432, 3) := by decide +kernel
theorem dL_law_326 : decode cL_law 326 = .ok (.iconst 0, 1) := by decide +kernel
theorem dL_law_327 : decode cL_law 327 = .ok (.ireturn, 1) := by decide +kernel
theorem dL_law_328 : decode cL_law 328 = .ok (.aload_n 1, 1) := by decide +kernel
theorem dL_law_329 : decode cL_law 329 = .ok (.aload_n 0, 1) := by decide +kernel
theorem dL_law_330 : decode cL_law 330 = .ok (.iload_n 3, 1) := by decide +kernel
theorem dL_law_331 : decode cL_law 331 = .ok (.iconst 1, 1) := by decide +kernel
theorem dL_law_332 : decode cL_law 332 = .ok (.iadd, 1) := by decide +kernel
theorem dL_law_333 : decode cL_law 333 = .ok (.iaload, 1) := by decide +kernel
theorem dL_law_334 : decode cL_law 334 = .ok (.aload_n 0, 1) := by decide +kernel
theorem dL_law_335 : decode cL_law 335 = .ok (.iload_n 3, 1) := by decide +kernel
theorem dL_law_336 : decode cL_law 336 = .ok (.iconst 2, 1) := by decide +kernel
theorem dL_law_337 : decode cL_law 337 = .ok (.iadd, 1) := by decide +kernel
theorem dL_law_338 : decode cL_law 338 = .ok (.iaload, 1) := by decide +kernel
theorem dL_law_339 : decode cL_law 339 = .ok (.invokevirtual 39, 3) := by decide +kernel
theorem dL_law_342 : decode cL_law 342 = .ok (.aload_n 2, 1) := by decide +kernel
theorem dL_law_343 : decode cL_law 343 = .ok (.aload_n 0, 1) := by decide +kernel
theorem dL_law_344 : decode cL_law 344 = .ok (.iload_n 3, 1) := by decide +kernel
theorem dL_law_345 : decode cL_law 345 = .ok (.iconst 1, 1) := by decide +kernel
theorem dL_law_346 : decode cL_law 346 = .ok (.iadd, 1) := by decide +kernel
theorem dL_law_347 : decode cL_law 347 = .ok (.iaload, 1) := by decide +kernel
theorem dL_law_348 : decode cL_law 348 = .ok (.aload_n 0, 1) := by decide +kernel
theorem dL_law_349 : decode cL_law 349 = .ok (.iload_n 3, 1) := by decide +kernel
theorem dL_law_350 : decode cL_law 350 = .ok (.iconst 2, 1) := by decide +kernel
theorem dL_law_351 : decode cL_law 351 = .ok (.iadd, 1) := by decide +kernel
theorem dL_law_352 : decode cL_law 352 = .ok (.iaload, 1) := by decide +kernel
theorem dL_law_353 : decode cL_law 353 = .ok (.invokevirtual 42, 3) := by decide +kernel
theorem dL_law_356 : decode cL_law 356 = .ok (.if_icmp .eq 399, 3) := by decide +kernel
theorem dL_law_359 : decode cL_law 359 = .ok (.iconst 0, 1) := by decide +kernel
theorem dL_law_360 : decode cL_law 360 = .ok (.ireturn, 1) := by decide +kernel
theorem dL_law_361 : decode cL_law 361 = .ok (.aload_n 1, 1) := by decide +kernel
theorem dL_law_362 : decode cL_law 362 = .ok (.aload_n 0, 1) := by decide +kernel
theorem dL_law_363 : decode cL_law 363 = .ok (.iload_n 3, 1) := by decide +kernel
theorem dL_law_364 : decode cL_law 364 = .ok (.iconst 1, 1) := by decide +kernel
theorem dL_law_365 : decode cL_law 365 = .ok (.iadd, 1) := by decide +kernel
theorem dL_law_366 : decode cL_law 366 = .ok (.iaload, 1) := by decide +kernel
theorem dL_law_367 : decode cL_law 367 = .ok (.invokevirtual 43, 3) := by decide +kernel
theorem dL_law_370 : decode cL_law 370 = .ok (.aload_n 2, 1) := by decide +kernel
theorem dL_law_371 : decode cL_law 371 = .ok (.aload_n 0, 1) := by decide +kernel
theorem dL_law_372 : decode cL_law 372 = .ok (.iload_n 3, 1) := by decide +kernel
theorem dL_law_373 : decode cL_law 373 = .ok (.iconst 1, 1) := by decide +kernel
theorem dL_law_374 : decode cL_law 374 = .ok (.iadd, 1) := by decide +kernel
theorem dL_law_375 : decode cL_law 375 = .ok (.iaload, 1) := by decide +kernel
theorem dL_law_376 : decode cL_law 376 = .ok (.invokevirtual 46, 3) := by decide +kernel
theorem dL_law_379 : decode cL_law 379 = .ok (.if_icmp .eq 376, 3) := by decide +kernel
theorem dL_law_382 : decode cL_law 382 = .ok (.iconst 0, 1) := by decide +kernel
theorem dL_law_383 : decode cL_law 383 = .ok (.ireturn, 1) := by decide +kernel
theorem dL_law_384 : decode cL_law 384 = .ok (.aload_n 1, 1) := by decide +kernel
theorem dL_law_385 : decode cL_law 385 = .ok (.aload_n 0, 1) := by decide +kernel
theorem dL_law_386 : decode cL_law 386 = .ok (.iload_n 3, 1) := by decide +kernel
theorem dL_law_387 : decode cL_law 387 = .ok (.iconst 1, 1) := by decide +kernel
theorem dL_law_388 : decode cL_law 388 = .ok (.iadd, 1) := by decide +kernel
theorem dL_law_389 : decode cL_law 389 = .ok (.iaload, 1) := by decide +kernel
theorem dL_law_390 : decode cL_law 390 = .ok (.invokevirtual 47, 3) := by decide +kernel
theorem dL_law_393 : decode cL_law 393 = .ok (.aload_n 2, 1) := by decide +kernel
theorem dL_law_394 : decode cL_law 394 = .ok (.aload_n 0, 1) := by decide +kernel
theorem dL_law_395 : decode cL_law 395 = .ok (.iload_n 3, 1) := by decide +kernel
theorem dL_law_396 : decode cL_law 396 = .ok (.iconst 1, 1) := by decide +kernel
theorem dL_law_397 : decode cL_law 397 = .ok (.iadd, 1) := by decide +kernel
theorem dL_law_398 : decode cL_law 398 = .ok (.iaload, 1) := by decide +kernel
theorem dL_law_399 : decode cL_law 399 = .ok (.invokevirtual 50, 3) := by decide +kernel
theorem dL_law_402 : decode cL_law 402 = .ok (.if_icmp .eq 353, 3) := by decide +kernel
theorem dL_law_405 : decode cL_law 405 = .ok (.iconst 0, 1) := by decide +kernel
theorem dL_law_406 : decode cL_law 406 = .ok (.ireturn, 1) := by decide +kernel
theorem dL_law_407 : decode cL_law 407 = .ok (.aload_n 1, 1) := by decide +kernel
theorem dL_law_408 : decode cL_law 408 = .ok (.aload_n 0, 1) := by decide +kernel
theorem dL_law_409 : decode cL_law 409 = .ok (.iload_n 3, 1) := by decide +kernel
theorem dL_law_410 : decode cL_law 410 = .ok (.iconst 1, 1) := by decide +kernel
theorem dL_law_411 : decode cL_law 411 = .ok (.iadd, 1) := by decide +kernel
theorem dL_law_412 : decode cL_law 412 = .ok (.iaload, 1) := by decide +kernel
theorem dL_law_413 : decode cL_law 413 = .ok (.invokevirtual 51, 3) := by decide +kernel
theorem dL_law_416 : decode cL_law 416 = .ok (.aload_n 2, 1) := by decide +kernel
theorem dL_law_417 : decode cL_law 417 = .ok (.aload_n 0, 1) := by decide +kernel
theorem dL_law_418 : decode cL_law 418 = .ok (.iload_n 3, 1) := by decide +kernel
theorem dL_law_419 : decode cL_law 419 = .ok (.iconst 1, 1) := by decide +kernel
theorem dL_law_420 : decode cL_law 420 = .ok (.iadd, 1) := by decide +kernel
theorem dL_law_421 : decode cL_law 421 = .ok (.iaload, 1) := by decide +kernel
theorem dL_law_422 : decode cL_law 422 = .ok (.invokevirtual 54, 3) := by decide +kernel
theorem dL_law_425 : decode cL_law 425 = .ok (.if_icmp .eq 330, 3) := by decide +kernel
theorem dL_law_428 : decode cL_law 428 = .ok (.iconst 0, 1) := by decide +kernel
theorem dL_law_429 : decode cL_law 429 = .ok (.ireturn, 1) := by decide +kernel
theorem dL_law_430 : decode cL_law 430 = .ok (.aload_n 1, 1) := by decide +kernel
theorem dL_law_431 : decode cL_law 431 = .ok (.aload_n 0, 1) := by decide +kernel
theorem dL_law_432 : decode cL_law 432 = .ok (.iload_n 3, 1) := by decide +kernel
theorem dL_law_433 : decode cL_law 433 = .ok (.iconst 1, 1) := by decide +kernel
theorem dL_law_434 : decode cL_law 434 = .ok (.iadd, 1) := by decide +kernel
theorem dL_law_435 : decode cL_law 435 = .ok (.iaload, 1) := by decide +kernel
theorem dL_law_436 : decode cL_law 436 = .ok (.aload_n 0, 1) := by decide +kernel
theorem dL_law_437 : decode cL_law 437 = .ok (.iload_n 3, 1) := by decide +kernel
theorem dL_law_438 : decode cL_law 438 = .ok (.iconst 2, 1) := by decide +kernel
theorem dL_law_439 : decode cL_law 439 = .ok (.iadd, 1) := by decide +kernel
theorem dL_law_440 : decode cL_law 440 = .ok (.iaload, 1) := by decide +kernel
theorem dL_law_441 : decode cL_law 441 = .ok (.aload_n 0, 1) := by decide +kernel
theorem dL_law_442 : decode cL_law 442 = .ok (.iload_n 3, 1) := by decide +kernel
theorem dL_law_443 : decode cL_law 443 = .ok (.iconst 3, 1) := by decide +kernel
theorem dL_law_444 : decode cL_law 444 = .ok (.iadd, 1) := by decide +kernel
theorem dL_law_445 : decode cL_law 445 = .ok (.iaload, 1) := by decide +kernel
theorem dL_law_446 : decode cL_law 446 = .ok (.invokevirtual 55, 3) := by decide +kernel
theorem dL_law_449 : decode cL_law 449 = .ok (.aload_n 2, 1) := by decide +kernel
theorem dL_law_450 : decode cL_law 450 = .ok (.aload_n 0, 1) := by decide +kernel
theorem dL_law_451 : decode cL_law 451 = .ok (.iload_n 3, 1) := by decide +kernel
theorem dL_law_452 : decode cL_law 452 = .ok (.iconst 1, 1) := by decide +kernel
theorem dL_law_453 : decode cL_law 453 = .ok (.iadd, 1) := by decide +kernel
theorem dL_law_454 : decode cL_law 454 = .ok (.iaload, 1) := by decide +kernel
theorem dL_law_455 : decode cL_law 455 = .ok (.aload_n 0, 1) := by decide +kernel
theorem dL_law_456 : decode cL_law 456 = .ok (.iload_n 3, 1) := by decide +kernel
theorem dL_law_457 : decode cL_law 457 = .ok (.iconst 2, 1) := by decide +kernel
theorem dL_law_458 : decode cL_law 458 = .ok (.iadd, 1) := by decide +kernel
theorem dL_law_459 : decode cL_law 459 = .ok (.iaload, 1) := by decide +kernel
theorem dL_law_460 : decode cL_law 460 = .ok (.aload_n 0, 1) := by decide +kernel
theorem dL_law_461 : decode cL_law 461 = .ok (.iload_n 3, 1) := by decide +kernel
theorem dL_law_462 : decode cL_law 462 = .ok (.iconst 3, 1) := by decide +kernel
theorem dL_law_463 : decode cL_law 463 = .ok (.iadd, 1) := by decide +kernel
theorem dL_law_464 : decode cL_law 464 = .ok (.iaload, 1) := by decide +kernel
theorem dL_law_465 : decode cL_law 465 = .ok (.invokevirtual 59, 3) := by decide +kernel
theorem dL_law_468 : decode cL_law 468 = .ok (.if_icmp .eq 287, 3) := by decide +kernel
theorem dL_law_471 : decode cL_law 471 = .ok (.iconst 0, 1) := by decide +kernel
theorem dL_law_472 : decode cL_law 472 = .ok (.ireturn, 1) := by decide +kernel
theorem dL_law_473 : decode cL_law 473 = .ok (.aload_n 1, 1) := by decide +kernel
theorem dL_law_474 : decode cL_law 474 = .ok (.invokevirtual 60, 3) := by decide +kernel
theorem dL_law_477 : decode cL_law 477 = .ok (.aload_n 2, 1) := by decide +kernel
theorem dL_law_478 : decode cL_law 478 = .ok (.invokevirtual 64, 3) := by decide +kernel
theorem dL_law_481 : decode cL_law 481 = .ok (.if_icmp .eq 274, 3) := by decide +kernel
theorem dL_law_484 : decode cL_law 484 = .ok (.iconst 0, 1) := by decide +kernel
theorem dL_law_485 : decode cL_law 485 = .ok (.ireturn, 1) := by decide +kernel
theorem dL_law_486 : decode cL_law 486 = .ok (.aload_n 1, 1) := by decide +kernel
theorem dL_law_487 : decode cL_law 487 = .ok (.aload_n 0, 1) := by decide +kernel
theorem dL_law_488 : decode cL_law 488 = .ok (.iload_n 3, 1) := by decide +kernel
theorem dL_law_489 : decode cL_law 489 = .ok (.iconst 1, 1) := by decide +kernel
theorem dL_law_490 : decode cL_law 490 = .ok (.iadd, 1) := by decide +kernel
theorem dL_law_491 : decode cL_law 491 = .ok (.iaload, 1) := by decide +kernel
theorem dL_law_492 : decode cL_law 492 = .ok (.invokevirtual 65, 3) := by decide +kernel
theorem dL_law_495 : decode cL_law 495 = .ok (.aload_n 2, 1) := by decide +kernel
theorem dL_law_496 : decode cL_law 496 = .ok (.aload_n 0, 1) := by decide +kernel
theorem dL_law_497 : decode cL_law 497 = .ok (.iload_n 3, 1) := by decide +kernel
theorem dL_law_498 : decode cL_law 498 = .ok (.iconst 1, 1) := by decide +kernel
theorem dL_law_499 : decode cL_law 499 = .ok (.iadd, 1) := by decide +kernel
theorem dL_law_500 : decode cL_law 500 = .ok (.iaload, 1) := by decide +kernel
theorem dL_law_501 : decode cL_law 501 = .ok (.invokevirtual 68, 3) := by decide +kernel
theorem dL_law_504 : decode cL_law 504 = .ok (.if_icmp .eq 251, 3) := by decide +kernel
theorem dL_law_507 : decode cL_law 507 = .ok (.iconst 0, 1) := by decide +kernel
theorem dL_law_508 : decode cL_law 508 = .ok (.ireturn, 1) := by decide +kernel
theorem dL_law_509 : decode cL_law 509 = .ok (.aload_n 1, 1) := by decide +kernel
theorem dL_law_510 : decode cL_law 510 = .ok (.invokevirtual 69, 3) := by decide +kernel
theorem dL_law_513 : decode cL_law 513 = .ok (.aload_n 2, 1) := by decide +kernel
theorem dL_law_514 : decode cL_law 514 = .ok (.invokevirtual 72, 3) := by decide +kernel
theorem dL_law_517 : decode cL_law 517 = .ok (.if_icmp .eq 238, 3) := by decide +kernel
theorem dL_law_520 : decode cL_law 520 = .ok (.iconst 0, 1) := by decide +kernel
theorem dL_law_521 : decode cL_law 521 = .ok (.ireturn, 1) := by decide +kernel
theorem dL_law_522 : decode cL_law 522 = .ok (.aload_n 1, 1) := by decide +kernel
theorem dL_law_523 : decode cL_law 523 = .ok (.aload_n 0, 1) := by decide +kernel
theorem dL_law_524 : decode cL_law 524 = .ok (.iload_n 3, 1) := by decide +kernel
theorem dL_law_525 : decode cL_law 525 = .ok (.iconst 1, 1) := by decide +kernel
theorem dL_law_526 : decode cL_law 526 = .ok (.iadd, 1) := by decide +kernel
theorem dL_law_527 : decode cL_law 527 = .ok (.iaload, 1) := by decide +kernel
theorem dL_law_528 : decode cL_law 528 = .ok (.invokevirtual 73, 3) := by decide +kernel
theorem dL_law_531 : decode cL_law 531 = .ok (.aload_n 2, 1) := by decide +kernel
theorem dL_law_532 : decode cL_law 532 = .ok (.aload_n 0, 1) := by decide +kernel
theorem dL_law_533 : decode cL_law 533 = .ok (.iload_n 3, 1) := by decide +kernel
theorem dL_law_534 : decode cL_law 534 = .ok (.iconst 1, 1) := by decide +kernel
theorem dL_law_535 : decode cL_law 535 = .ok (.iadd, 1) := by decide +kernel
theorem dL_law_536 : decode cL_law 536 = .ok (.iaload, 1) := by decide +kernel
theorem dL_law_537 : decode cL_law 537 = .ok (.invokevirtual 76, 3) := by decide +kernel
theorem dL_law_540 : decode cL_law 540 = .ok (.if_icmp .eq 215, 3) := by decide +kernel
theorem dL_law_543 : decode cL_law 543 = .ok (.iconst 0, 1) := by decide +kernel
theorem dL_law_544 : decode cL_law 544 = .ok (.ireturn, 1) := by decide +kernel
theorem dL_law_545 : decode cL_law 545 = .ok (.aload_n 1, 1) := by decide +kernel
theorem dL_law_546 : decode cL_law 546 = .ok (.aload_n 0, 1) := by decide +kernel
theorem dL_law_547 : decode cL_law 547 = .ok (.iload_n 3, 1) := by decide +kernel
theorem dL_law_548 : decode cL_law 548 = .ok (.iconst 1, 1) := by decide +kernel
theorem dL_law_549 : decode cL_law 549 = .ok (.iadd, 1) := by decide +kernel
theorem dL_law_550 : decode cL_law 550 = .ok (.iaload, 1) := by decide +kernel
theorem dL_law_551 : decode cL_law 551 = .ok (.invokevirtual 77, 3) := by decide +kernel
theorem dL_law_554 : decode cL_law 554 = .ok (.aload_n 2, 1) := by decide +kernel
theorem dL_law_555 : decode cL_law 555 = .ok (.aload_n 0, 1) := by decide +kernel
theorem dL_law_556 : decode cL_law 556 = .ok (.iload_n 3, 1) := by decide +kernel
theorem dL_law_557 : decode cL_law 557 = .ok (.iconst 1, 1) := by decide +kernel
theorem dL_law_558 : decode cL_law 558 = .ok (.iadd, 1) := by decide +kernel
theorem dL_law_559 : decode cL_law 559 = .ok (.iaload, 1) := by decide +kernel
theorem dL_law_560 : decode cL_law 560 = .ok (.invokevirtual 80, 3) := by decide +kernel
theorem dL_law_563 : decode cL_law 563 = .ok (.if_icmp .eq 192, 3) := by decide +kernel
theorem dL_law_566 : decode cL_law 566 = .ok (.iconst 0, 1) := by decide +kernel
theorem dL_law_567 : decode cL_law 567 = .ok (.ireturn, 1) := by decide +kernel
theorem dL_law_568 : decode cL_law 568 = .ok (.aload_n 1, 1) := by decide +kernel
theorem dL_law_569 : decode cL_law 569 = .ok (.aload_n 0, 1) := by decide +kernel
theorem dL_law_570 : decode cL_law 570 = .ok (.iload_n 3, 1) := by decide +kernel
theorem dL_law_571 : decode cL_law 571 = .ok (.iconst 1, 1) := by decide +kernel
theorem dL_law_572 : decode cL_law 572 = .ok (.iadd, 1) := by decide +kernel
theorem dL_law_573 : decode cL_law 573 = .ok (.iaload, 1) := by decide +kernel
theorem dL_law_574 : decode cL_law 574 = .ok (.invokevirtual 81, 3) := by decide +kernel
theorem dL_law_577 : decode cL_law 577 = .ok (.aload_n 2, 1) := by decide +kernel
theorem dL_law_578 : decode cL_law 578 = .ok (.aload_n 0, 1) := by decide +kernel
theorem dL_law_579 : decode cL_law 579 = .ok (.iload_n 3, 1) := by decide +kernel
theorem dL_law_580 : decode cL_law 580 = .ok (.iconst 1, 1) := by decide +kernel
theorem dL_law_581 : decode cL_law 581 = .ok (.iadd, 1) := by decide +kernel
theorem dL_law_582 : decode cL_law 582 = .ok (.iaload, 1) := by decide +kernel
theorem dL_law_583 : decode cL_law 583 = .ok (.invokevirtual 84, 3) := by decide +kernel
theorem dL_law_586 : decode cL_law 586 = .ok (.if_icmp .eq 169, 3) := by decide +kernel
theorem dL_law_589 : decode cL_law 589 = .ok (.iconst 0, 1) := by decide +kernel
theorem dL_law_590 : decode cL_law 590 = .ok (.ireturn, 1) := by decide +kernel
theorem dL_law_591 : decode cL_law 591 = .ok (.aload_n 1, 1) := by decide +kernel
theorem dL_law_592 : decode cL_law 592 = .ok (.aload_n 0, 1) := by decide +kernel
theorem dL_law_593 : decode cL_law 593 = .ok (.iload_n 3, 1) := by decide +kernel
theorem dL_law_594 : decode cL_law 594 = .ok (.iconst 1, 1) := by decide +kernel
theorem dL_law_595 : decode cL_law 595 = .ok (.iadd, 1) := by decide +kernel
theorem dL_law_596 : decode cL_law 596 = .ok (.iaload, 1) := by decide +kernel
theorem dL_law_597 : decode cL_law 597 = .ok (.invokevirtual 85, 3) := by decide +kernel
theorem dL_law_600 : decode cL_law 600 = .ok (.aload_n 2, 1) := by decide +kernel
theorem dL_law_601 : decode cL_law 601 = .ok (.aload_n 0, 1) := by decide +kernel
theorem dL_law_602 : decode cL_law 602 = .ok (.iload_n 3, 1) := by decide +kernel
theorem dL_law_603 : decode cL_law 603 = .ok (.iconst 1, 1) := by decide +kernel
theorem dL_law_604 : decode cL_law 604 = .ok (.iadd, 1) := by decide +kernel
theorem dL_law_605 : decode cL_law 605 = .ok (.iaload, 1) := by decide +kernel
theorem dL_law_606 : decode cL_law 606 = .ok (.invokevirtual 88, 3) := by decide +kernel
theorem dL_law_609 : decode cL_law 609 = .ok (.if_icmp .eq 146, 3) := by decide +kernel
theorem dL_law_612 : decode cL_law 612 = .ok (.iconst 0, 1) := by decide +kernel
theorem dL_law_613 : decode cL_law 613 = .ok (.ireturn, 1) := by decide +kernel
theorem dL_law_614 : decode cL_law 614 = .ok (.aload_n 1, 1) := by decide +kernel
theorem dL_law_615 : decode cL_law 615 = .ok (.aload_n 0, 1) := by decide +kernel
theorem dL_law_616 : decode cL_law 616 = .ok (.iload_n 3, 1) := by decide +kernel
theorem dL_law_617 : decode cL_law 617 = .ok (.iconst 1, 1) := by decide +kernel
theorem dL_law_618 : decode cL_law 618 = .ok (.iadd, 1) := by decide +kernel
theorem dL_law_619 : decode cL_law 619 = .ok (.iaload, 1) := by decide +kernel
theorem dL_law_620 : decode cL_law 620 = .ok (.aload_n 0, 1) := by decide +kernel
theorem dL_law_621 : decode cL_law 621 = .ok (.iload_n 3, 1) := by decide +kernel
theorem dL_law_622 : decode cL_law 622 = .ok (.iconst 2, 1) := by decide +kernel
theorem dL_law_623 : decode cL_law 623 = .ok (.iadd, 1) := by decide +kernel
theorem dL_law_624 : decode cL_law 624 = .ok (.iaload, 1) := by decide +kernel
theorem dL_law_625 : decode cL_law 625 = .ok (.aload_n 0, 1) := by decide +kernel
theorem dL_law_626 : decode cL_law 626 = .ok (.iload_n 3, 1) := by decide +kernel
theorem dL_law_627 : decode cL_law 627 = .ok (.iconst 3, 1) := by decide +kernel
theorem dL_law_628 : decode cL_law 628 = .ok (.iadd, 1) := by decide +kernel
theorem dL_law_629 : decode cL_law 629 = .ok (.iaload, 1) := by decide +kernel
theorem dL_law_630 : decode cL_law 630 = .ok (.ifCond .eq 7, 3) := by decide +kernel
theorem dL_law_633 : decode cL_law 633 = .ok (.iconst 1, 1) := by decide +kernel
theorem dL_law_634 : decode cL_law 634 = .ok (.goto 4, 3) := by decide +kernel
theorem dL_law_637 : decode cL_law 637 = .ok (.iconst 0, 1) := by decide +kernel
theorem dL_law_638 : decode cL_law 638 = .ok (.invokevirtual 89, 3) := by decide +kernel
theorem dL_law_641 : decode cL_law 641 = .ok (.aload_n 2, 1) := by decide +kernel
theorem dL_law_642 : decode cL_law 642 = .ok (.aload_n 0, 1) := by decide +kernel
theorem dL_law_643 : decode cL_law 643 = .ok (.iload_n 3, 1) := by decide +kernel
theorem dL_law_644 : decode cL_law 644 = .ok (.iconst 1, 1) := by decide +kernel
theorem dL_law_645 : decode cL_law 645 = .ok (.iadd, 1) := by decide +kernel
theorem dL_law_646 : decode cL_law 646 = .ok (.iaload, 1) := by decide +kernel
theorem dL_law_647 : decode cL_law 647 = .ok (.aload_n 0, 1) := by decide +kernel
theorem dL_law_648 : decode cL_law 648 = .ok (.iload_n 3, 1) := by decide +kernel
theorem dL_law_649 : decode cL_law 649 = .ok (.iconst 2, 1) := by decide +kernel
theorem dL_law_650 : decode cL_law 650 = .ok (.iadd, 1) := by decide +kernel
theorem dL_law_651 : decode cL_law 651 = .ok (.iaload, 1) := by decide +kernel
theorem dL_law_652 : decode cL_law 652 = .ok (.aload_n 0, 1) := by decide +kernel
theorem dL_law_653 : decode cL_law 653 = .ok (.iload_n 3, 1) := by decide +kernel
theorem dL_law_654 : decode cL_law 654 = .ok (.iconst 3, 1) := by decide +kernel
theorem dL_law_655 : decode cL_law 655 = .ok (.iadd, 1) := by decide +kernel
theorem dL_law_656 : decode cL_law 656 = .ok (.iaload, 1) := by decide +kernel
theorem dL_law_657 : decode cL_law 657 = .ok (.ifCond .eq 7, 3) := by decide +kernel
theorem dL_law_660 : decode cL_law 660 = .ok (.iconst 1, 1) := by decide +kernel
theorem dL_law_661 : decode cL_law 661 = .ok (.goto 4, 3) := by decide +kernel
theorem dL_law_664 : decode cL_law 664 = .ok (.iconst 0, 1) := by decide +kernel
theorem dL_law_665 : decode cL_law 665 = .ok (.invokevirtual 93, 3) := by decide +kernel
theorem dL_law_668 : decode cL_law 668 = .ok (.if_icmp .eq 87, 3) := by decide +kernel
theorem dL_law_671 : decode cL_law 671 = .ok (.iconst 0, 1) := by decide +kernel
theorem dL_law_672 : decode cL_law 672 = .ok (.ireturn, 1) := by decide +kernel
theorem dL_law_673 : decode cL_law 673 = .ok (.aload_n 1, 1) := by decide +kernel
theorem dL_law_674 : decode cL_law 674 = .ok (.invokevirtual 94, 3) := by decide +kernel
theorem dL_law_677 : decode cL_law 677 = .ok (.aload_n 2, 1) := by decide +kernel
theorem dL_law_678 : decode cL_law 678 = .ok (.invokevirtual 97, 3) := by decide +kernel
theorem dL_law_681 : decode cL_law 681 = .ok (.if_icmp .eq 74, 3) := by decide +kernel
theorem dL_law_684 : decode cL_law 684 = .ok (.iconst 0, 1) := by decide +kernel
theorem dL_law_685 : decode cL_law 685 = .ok (.ireturn, 1) := by decide +kernel
theorem dL_law_686 : decode cL_law 686 = .ok (.aload_n 1, 1) := by decide +kernel
theorem dL_law_687 : decode cL_law 687 = .ok (.aload_n 0, 1) := by decide +kernel
theorem dL_law_688 : decode cL_law 688 = .ok (.iload_n 3, 1) := by decide +kernel
theorem dL_law_689 : decode cL_law 689 = .ok (.iconst 1, 1) := by decide +kernel
theorem dL_law_690 : decode cL_law 690 = .ok (.iadd, 1) := by decide +kernel
theorem dL_law_691 : decode cL_law 691 = .ok (.iaload, 1) := by decide +kernel
theorem dL_law_692 : decode cL_law 692 = .ok (.invokevirtual 98, 3) := by decide +kernel
theorem dL_law_695 : decode cL_law 695 = .ok (.aload_n 2, 1) := by decide +kernel
theorem dL_law_696 : decode cL_law 696 = .ok (.aload_n 0, 1) := by decide +kernel
theorem dL_law_697 : decode cL_law 697 = .ok (.iload_n 3, 1) := by decide +kernel
theorem dL_law_698 : decode cL_law 698 = .ok (.iconst 1, 1) := by decide +kernel
theorem dL_law_699 : decode cL_law 699 = .ok (.iadd, 1) := by decide +kernel
theorem dL_law_700 : decode cL_law 700 = .ok (.iaload, 1) := by decide +kernel
theorem dL_law_701 : decode cL_law 701 = .ok (.invokevirtual 101, 3) := by decide +kernel
theorem dL_law_704 : decode cL_law 704 = .ok (.if_icmp .eq 51, 3) := by decide +kernel
theorem dL_law_707 : decode cL_law 707 = .ok (.iconst 0, 1) := by decide +kernel
theorem dL_law_708 : decode cL_law 708 = .ok (.ireturn, 1) := by decide +kernel
theorem dL_law_709 : decode cL_law 709 = .ok (.aload_n 1, 1) := by decide +kernel
theorem dL_law_710 : decode cL_law 710 = .ok (.aload_n 0, 1) := by decide +kernel
theorem dL_law_711 : decode cL_law 711 = .ok (.iload_n 3, 1) := by decide +kernel
theorem dL_law_712 : decode cL_law 712 = .ok (.iconst 1, 1) := by decide +kernel
theorem dL_law_713 : decode cL_law 713 = .ok (.iadd, 1) := by decide +kernel
theorem dL_law_714 : decode cL_law 714 = .ok (.iaload, 1) := by decide +kernel
theorem dL_law_715 : decode cL_law 715 = .ok (.invokevirtual 102, 3) := by decide +kernel
theorem dL_law_718 : decode cL_law 718 = .ok (.aload_n 2, 1) := by decide +kernel
theorem dL_law_719 : decode cL_law 719 = .ok (.aload_n 0, 1) := by decide +kernel
theorem dL_law_720 : decode cL_law 720 = .ok (.iload_n 3, 1) := by decide +kernel
theorem dL_law_721 : decode cL_law 721 = .ok (.iconst 1, 1) := by decide +kernel
theorem dL_law_722 : decode cL_law 722 = .ok (.iadd, 1) := by decide +kernel
theorem dL_law_723 : decode cL_law 723 = .ok (.iaload, 1) := by decide +kernel
theorem dL_law_724 : decode cL_law 724 = .ok (.invokevirtual 105, 3) := by decide +kernel
theorem dL_law_727 : decode cL_law 727 = .ok (.if_icmp .eq 28, 3) := by decide +kernel
theorem dL_law_730 : decode cL_law 730 = .ok (.iconst 0, 1) := by decide +kernel
theorem dL_law_731 : decode cL_law 731 = .ok (.ireturn, 1) := by decide +kernel
theorem dL_law_732 : decode cL_law 732 = .ok (.aload_n 1, 1) := by decide +kernel
theorem dL_law_733 : decode cL_law 733 = .ok (.aload_n 0, 1) := by decide +kernel
theorem dL_law_734 : decode cL_law 734 = .ok (.iload_n 3, 1) := by decide +kernel
theorem dL_law_735 : decode cL_law 735 = .ok (.iconst 1, 1) := by decide +kernel
theorem dL_law_736 : decode cL_law 736 = .ok (.iadd, 1) := by decide +kernel
theorem dL_law_737 : decode cL_law 737 = .ok (.iaload, 1) := by decide +kernel
theorem dL_law_738 : decode cL_law 738 = .ok (.invokevirtual 106, 3) := by decide +kernel
theorem dL_law_741 : decode cL_law 741 = .ok (.aload_n 2, 1) := by decide +kernel
theorem dL_law_742 : decode cL_law 742 = .ok (.aload_n 0, 1) := by decide +kernel
theorem dL_law_743 : decode cL_law 743 = .ok (.iload_n 3, 1) := by decide +kernel
theorem dL_law_744 : decode cL_law 744 = .ok (.iconst 1, 1) := by decide +kernel
theorem dL_law_745 : decode cL_law 745 = .ok (.iadd, 1) := by decide +kernel
theorem dL_law_746 : decode cL_law 746 = .ok (.iaload, 1) := by decide +kernel
theorem dL_law_747 : decode cL_law 747 = .ok (.invokevirtual 109, 3) := by decide +kernel
theorem dL_law_750 : decode cL_law 750 = .ok (.if_icmp .eq 5, 3) := by decide +kernel
theorem dL_law_753 : decode cL_law 753 = .ok (.iconst 0, 1) := by decide +kernel
theorem dL_law_754 : decode cL_law 754 = .ok (.ireturn, 1) := by decide +kernel
theorem dL_law_755 : decode cL_law 755 = .ok (.iinc 3 4, 3) := by decide +kernel
theorem dL_law_758 : decode cL_law 758 = .ok (.goto (-740), 3) := by decide +kernel
theorem dL_law_761 : decode cL_law 761 = .ok (.iconst 1, 1) := by decide +kernel
theorem dL_law_762 : decode cL_law 762 = .ok (.ireturn, 1) := by decide +kernel
end
section
/-! A small machine over typed memory: values are ints, references (kind, instance) and longs; memory maps kind, instance, slot to an int. All references of the two objects are fixed by their kinds. -/
abbrev mV : Type := Int32 ⊕ ((Nat × Nat) ⊕ Int64)
abbrev mM : Type := Nat → Nat → Nat → Int32
abbrev mC : Type := Nat × List mV × List mV × mM
abbrev mR : Type := Int32 × mM
abbrev mE : Type := Nat → List mV → mM → Option mR
abbrev vi (x : Int32) : mV := .inl x
abbrev vr (k i : Nat) : mV := .inr (.inl (k, i))
abbrev vl (x : Int64) : mV := .inr (.inr x)
abbrev vu : mV := .inr (.inl (99, 0))
def mm_up (μ : mM) (k i j : Nat) (v : Int32) : mM := fun a b c => if a = k ∧ b = i ∧ c = j then v else μ a b c
/-- one row of memory replaced -/
def mm_row (μ : mM) (k i : Nat) (f : Nat → Int32) : mM := fun a b => if a = k ∧ b = i then f else μ a b
def mm_cat : mV → Nat
  | .inr (.inr _) => 2
  | _ => 1
def mm_ct (l : List mV) : Nat := (l.map mm_cat).sum
abbrev mS : Type := Option (mC ⊕ mR)
def mm_nx (pc : Nat) (ls st : List mV) (μ : mM) : mS := some (.inl (pc, ls, st, μ))
def mm_jp (pc : Nat) (off : Int) (ls st : List mV) (μ : mM) : mS := if 0 ≤ (pc : Int) + off then some (.inl (((pc : Int) + off).toNat, ls, st, μ)) else none
def mm_br (b : Bool) (pc : Nat) (off : Int) (ls st : List mV) (μ : mM) : mS := if 0 ≤ (pc : Int) + off then (if b = true then some (.inl (((pc : Int) + off).toNat, ls, st, μ)) else some (.inl (pc + 3, ls, st, μ))) else none
def mm_ps (pc : Nat) (ls : List mV) (v : mV) (st : List mV) (μ : mM) : mS := mm_nx pc ls (v :: st) μ
def mm_ild (pc i : Nat) (ls st : List mV) (μ : mM) : mS := match ls[i]? with
  | some (.inl x) => mm_nx pc ls (.inl x :: st) μ
  | _ => none
def mm_lld (pc i : Nat) (ls st : List mV) (μ : mM) : mS := match ls[i]? with
  | some (.inr (.inr x)) => mm_nx pc ls (.inr (.inr x) :: st) μ
  | _ => none
def mm_ald (pc i : Nat) (ls st : List mV) (μ : mM) : mS := match ls[i]? with
  | some (.inr (.inl (k, j))) => if k = 99 then none else mm_nx pc ls (.inr (.inl (k, j)) :: st) μ
  | _ => none
def mm_ist (rt pc i : Nat) (ls st : List mV) (μ : mM) : mS := match st with
  | .inl x :: st => if i < ls.length ∧ rt ≠ 3 then mm_nx pc (ls.set i (.inl x)) st μ else none
  | _ => none
def mm_inc (rt pc i : Nat) (n : Int) (ls st : List mV) (μ : mM) : mS := match ls[i]? with
  | some (.inl x) => if rt ≠ 3 then mm_nx pc (ls.set i (.inl (x + Int32.ofInt n))) st μ else none
  | _ => none
def mm_b2 (f : Int32 → Int32 → Option Int32) (pc : Nat) (ls st : List mV) (μ : mM) : mS := match st with
  | .inl b :: .inl a :: st => match f a b with
    | some v => mm_nx pc ls (.inl v :: st) μ
    | none => none
  | _ => none
def mm_l2 (f : Int64 → Int64 → Option mV) (pc : Nat) (ls st : List mV) (μ : mM) : mS := match st with
  | .inr (.inr b) :: .inr (.inr a) :: st => match f a b with
    | some v => mm_nx pc ls (v :: st) μ
    | none => none
  | _ => none
def mm_hi : Jvm.ClassFile.Cond → Int32 → Int32 → Bool
  | .eq, x, y => decide (x = y)
  | .ne, x, y => decide (¬ x = y)
  | .lt, x, y => decide (x < y)
  | .ge, x, y => decide (y ≤ x)
  | .gt, x, y => decide (y < x)
  | .le, x, y => decide (x ≤ y)
def mm_ic (cd : Jvm.ClassFile.Cond) (pc : Nat) (off : Int) (ls st : List mV) (μ : mM) : mS := match st with
  | .inl y :: .inl x :: st => mm_br (mm_hi cd x y) pc off ls st μ
  | _ => none
def mm_if (cd : Jvm.ClassFile.Cond) (pc : Nat) (off : Int) (ls st : List mV) (μ : mM) : mS := match st with
  | .inl x :: st => mm_br (mm_hi cd x 0) pc off ls st μ
  | _ => none
def mm_sw (pc : Nat) (d lo hi : Int) (offs : Array Int) (ls st : List mV) (μ : mM) : mS := match st with
  | .inl x :: st => if x.toInt < lo ∨ hi < x.toInt then mm_jp pc d ls st μ else match offs[(x.toInt - lo).toNat]? with
    | some off => mm_jp pc off ls st μ
    | none => none
  | _ => none
def mm_dup (pc : Nat) (ls st : List mV) (μ : mM) : mS := match st with
  | v :: st => if mm_cat v = 1 then mm_nx pc ls (v :: v :: st) μ else none
  | _ => none
def mm_pop (pc : Nat) (ls st : List mV) (μ : mM) : mS := match st with
  | v :: st => if mm_cat v = 1 then mm_nx pc ls st μ else none
  | _ => none
def mm_dx1 (pc : Nat) (ls st : List mV) (μ : mM) : mS := match st with
  | a :: b :: st => if mm_cat a = 1 ∧ mm_cat b = 1 then mm_nx pc ls (a :: b :: a :: st) μ else none
  | _ => none
def mm_dp2 (pc : Nat) (ls st : List mV) (μ : mM) : mS := match st with
  | a :: b :: st => if mm_cat a = 1 ∧ mm_cat b = 1 then mm_nx pc ls (a :: b :: a :: b :: st) μ else none
  | _ => none
def mm_i2l (pc : Nat) (ls st : List mV) (μ : mM) : mS := match st with
  | .inl x :: st => mm_nx pc ls (.inr (.inr x.toInt64) :: st) μ
  | _ => none
def mm_l2i (pc : Nat) (ls st : List mV) (μ : mM) : mS := match st with
  | .inr (.inr x) :: st => mm_nx pc ls (.inl x.toInt32 :: st) μ
  | _ => none
/-- the fields of a class, in the order of the slots: 0 an int, 1 a boolean, 2 a reference to (kind, instance + off) -/
def mm_fs : Nat → List (Nat × Nat × Nat)
  | 0 => [(2, 30, 0), (2, 31, 0), (2, 32, 0), (2, 33, 0), (0, 0, 0)]
  | 1 => [(0, 0, 0), (0, 0, 0), (0, 0, 0), (0, 0, 0), (0, 0, 0)]
  | 2 => [(2, 6, 17), (0, 0, 0), (1, 0, 0)]
  | 3 => [(2, 16, 0), (0, 0, 0), (0, 0, 0)]
  | 4 => [(2, 40, 0), (2, 41, 0), (2, 42, 0), (2, 43, 0), (0, 0, 0), (0, 0, 0)]
  | 5 => [(2, 20, 0), (2, 21, 0), (2, 22, 0), (2, 23, 0), (2, 24, 0), (2, 25, 0), (2, 26, 0), (2, 27, 0), (0, 0, 0), (0, 0, 0)]
  | 6 => [(2, 10, 0), (2, 11, 0), (2, 12, 0), (2, 13, 0), (2, 14, 0), (2, 15, 0), (0, 0, 0), (0, 0, 0), (0, 0, 0)]
  | 7 => [(2, 6, 0), (2, 3, 0), (2, 5, 0), (2, 1, 0), (2, 0, 0), (2, 4, 0), (2, 17, 0), (0, 0, 0)]
  | 8 => [(2, 50, 0), (2, 51, 0), (2, 52, 0), (0, 0, 0), (0, 0, 0), (2, 53, 0), (2, 54, 0), (2, 55, 0), (0, 0, 0), (2, 56, 0), (2, 57, 0), (2, 58, 0), (0, 0, 0), (0, 0, 0), (0, 0, 0), (2, 59, 0), (2, 60, 0)]
  | _ => []
/-- the arrays by kind: 0 ints, 1 booleans, 2 references to (kind, index + off); the length -/
def mm_as : Nat → Option (Nat × Nat × Nat × Nat)
  | 10 => some (0, 24, 0, 0)
  | 11 => some (0, 24, 0, 0)
  | 12 => some (0, 4, 0, 0)
  | 13 => some (0, 4, 0, 0)
  | 14 => some (0, 48, 0, 0)
  | 15 => some (0, 48, 0, 0)
  | 16 => some (2, 16, 6, 1)
  | 17 => some (2, 2, 2, 0)
  | 20 => some (0, 24, 0, 0)
  | 21 => some (0, 24, 0, 0)
  | 22 => some (0, 24, 0, 0)
  | 23 => some (0, 24, 0, 0)
  | 24 => some (0, 24, 0, 0)
  | 25 => some (0, 25, 0, 0)
  | 26 => some (0, 25, 0, 0)
  | 27 => some (0, 25, 0, 0)
  | 30 => some (0, 48, 0, 0)
  | 31 => some (0, 48, 0, 0)
  | 32 => some (1, 48, 0, 0)
  | 33 => some (2, 10, 34, 0)
  | 34 => some (0, 49, 0, 0)
  | 40 => some (0, 6, 0, 0)
  | 41 => some (1, 6, 0, 0)
  | 42 => some (0, 7, 0, 0)
  | 43 => some (0, 7, 0, 0)
  | 50 => some (0, 5225, 0, 0)
  | 51 => some (1, 2, 0, 0)
  | 52 => some (0, 2, 0, 0)
  | 53 => some (0, 24, 0, 0)
  | 54 => some (0, 25, 0, 0)
  | 55 => some (0, 25, 0, 0)
  | 56 => some (0, 6, 0, 0)
  | 57 => some (0, 6, 0, 0)
  | 58 => some (1, 6, 0, 0)
  | 59 => some (0, 48, 0, 0)
  | 60 => some (0, 490, 0, 0)
  | _ => none
/-- the kinds that there are, and how many of each -/
def mm_ks : List (Nat × Nat) := [(0, 1), (1, 1), (2, 2), (3, 1), (4, 1), (5, 1), (6, 19), (7, 1), (8, 1), (10, 19), (11, 19), (12, 19), (13, 19), (14, 19), (15, 19), (16, 1), (17, 1), (20, 1), (21, 1), (22, 1), (23, 1), (24, 1), (25, 1), (26, 1), (27, 1), (30, 1), (31, 1), (32, 1), (33, 1), (34, 10), (40, 1), (41, 1), (42, 1), (43, 1), (50, 1), (51, 1), (52, 1), (53, 1), (54, 1), (55, 1), (56, 1), (57, 1), (58, 1), (59, 1), (60, 1)]
def mm_all : List (Nat × Nat) := mm_ks.flatMap (fun q => (List.range q.2).map (fun i => (q.1, i)))
def mm_ok : mV → Prop
  | .inr (.inl q) => q ∈ mm_all
  | _ => True
end
section
def mm_rn : Nat → String
  | 0 => RX0
  | 1 => RX1
  | 2 => RX2
  | 3 => RX3
  | 4 => RX4
  | 5 => RX5
  | 6 => RX6
  | 7 => RX7
  | 8 => RX8
  | _ => RJ9
def mm_yn : Nat → MethodName
  | 0 => yX0_read
  | 1 => yX0_add
  | 2 => yX0_mostWorth
  | 3 => yX0_tryLastBox
  | 4 => yX0_addBox
  | 5 => yX1_seek
  | 6 => yX1_seekFrom
  | 7 => yX1_firstBoreFrom
  | 8 => yX1_weigh
  | 9 => yX3_note
  | 10 => yX3_giveBack
  | 11 => yX4_note
  | 12 => yX4_narrow
  | 13 => yX4_addRow
  | 14 => yX4_leaveOnly
  | 15 => yX4_cutOut
  | 16 => yX4_count
  | 17 => yX4_countWithin
  | 18 => yX4_leastSize
  | 19 => yX4_greatestSize
  | 20 => yX4_shaftToTry
  | 21 => yX5_read
  | 22 => yX5_addShaft
  | 23 => yX5_closesAfter
  | 24 => yX5_addBore
  | 25 => yX5_dropLatestBore
  | 26 => yX5_pair
  | 27 => yX5_firstToClose
  | 28 => yX5_leastPlay
  | 29 => yX5_greatestPlay
  | 30 => yX5_playOf
  | 31 => yX5_ease
  | 32 => yX5_sizeOfOneMore
  | 33 => yX5_pairsWith
  | 34 => yX6_copyFrom
  | 35 => yX6_parts
  | 36 => yX6_sortOf
  | 37 => yX6_hasRoom
  | 38 => yX6_put
  | 39 => yX6_countInSort
  | 40 => yX6_sortAnew
  | 41 => yX6_dropShaft
  | 42 => yX6_dropBore
  | 43 => yX6_empty
  | 44 => yX6_partsOfKind
  | 45 => yX6_shaftsOfGrade
  | 46 => yX6_shaftsFittedBy
  | 47 => yX6_begin
  | 48 => yX6_end
  | 49 => yX7_told
  | 50 => yX7_shaftAt
  | 51 => yX7_boreAt
  | 52 => yX7_gradeAt
  | 53 => yX7_sort
  | 54 => yX7_find
  | 55 => yX7_shaft
  | 56 => yX7_bore
  | 57 => yX7_takeShaft
  | 58 => yX7_takeBore
  | 59 => yX7_grade
  | 60 => yX7_putAway
  | 61 => yX7_batch
  | 62 => yX7_clear
  | 63 => yX7_undo
  | 64 => yX7_crowd
  | 65 => yX7_boxes
  | 66 => yX7_withBore
  | 67 => yX7_see
  | 68 => yX7_forget
  | 69 => yX7_seed
  | 70 => yX7_keep
  | 71 => yX7_goBack
  | 72 => yX7_pairUp
  | 73 => yX7_putAsDeed
  | 74 => yX7_draw
  | 75 => yX7_isIn
  | 76 => yX7_kindOf
  | 77 => yX7_gradeOf
  | 78 => yX7_sizeOf
  | 79 => yX8_in
  | 80 => yX8_copy
  | 81 => yX8_isGrade
  | 82 => yX8_isSize
  | 83 => yX8_isShaft
  | 84 => yX8_isBore
  | 85 => yX8_begin
  | 86 => yX8_end
  | 87 => yX8_fits
  | 88 => yX8_closesFirst
  | 89 => yX8_pairs
  | 90 => yX8_now
  | 91 => yX8_playOf
  | 92 => yX8_ease
  | 93 => yX8_more
  | 94 => yX8_isSo
  | 95 => yX8_laySizes
  | 96 => yX8_fitting
  | 97 => yX8_tryNext
  | 98 => yX8_sizesTell
  | 99 => yX8_told
  | 100 => yX8_sortOf
  | 101 => yX8_shaftTells
  | 102 => yX8_shaftAt
  | 103 => yX8_fitsMany
  | 104 => yX8_boreTells
  | 105 => yX8_boreAt
  | 106 => yX8_ofGrade
  | 107 => yX8_gradeAt
  | 108 => yX8_sort
  | 109 => yX8_find
  | 110 => yX8_remember
  | 111 => yX8_isRoomFor
  | 112 => yX8_comesSort
  | 113 => yX8_comes
  | 114 => yX8_shaft
  | 115 => yX8_bore
  | 116 => yX8_shaftGoes
  | 117 => yX8_boreGoes
  | 118 => yX8_takeShaft
  | 119 => yX8_takeBore
  | 120 => yX8_grade
  | 121 => yX8_putAway
  | 122 => yX8_draw
  | 123 => yX8_batch
  | 124 => yX8_clear
  | 125 => yX8_undo
  | 126 => yX8_shaftsWithin
  | 127 => yX8_boresWithin
  | 128 => yX8_crowd
  | 129 => yX8_keyOf
  | 130 => yX8_isAhead
  | 131 => yX8_lines
  | 132 => yX8_goesWith
  | 133 => yX8_boxes
  | 134 => yX8_withBore
  | 135 => yX8_see
  | 136 => yX8_forget
  | 137 => yX8_seed
  | 138 => yX8_keep
  | 139 => yX8_goBack
  | 140 => yJ9_floorMod_7cf53
  | 141 => yJ9_max_7cf53
  | 142 => yJ9_min_7cf53
  | _ => yX0_init
def mm_cn : Nat → ByteArray
  | 0 => cX0_read
  | 1 => cX0_add
  | 2 => cX0_mostWorth
  | 3 => cX0_tryLastBox
  | 4 => cX0_addBox
  | 5 => cX1_seek
  | 6 => cX1_seekFrom
  | 7 => cX1_firstBoreFrom
  | 8 => cX1_weigh
  | 9 => cX3_note
  | 10 => cX3_giveBack
  | 11 => cX4_note
  | 12 => cX4_narrow
  | 13 => cX4_addRow
  | 14 => cX4_leaveOnly
  | 15 => cX4_cutOut
  | 16 => cX4_count
  | 17 => cX4_countWithin
  | 18 => cX4_leastSize
  | 19 => cX4_greatestSize
  | 20 => cX4_shaftToTry
  | 21 => cX5_read
  | 22 => cX5_addShaft
  | 23 => cX5_closesAfter
  | 24 => cX5_addBore
  | 25 => cX5_dropLatestBore
  | 26 => cX5_pair
  | 27 => cX5_firstToClose
  | 28 => cX5_leastPlay
  | 29 => cX5_greatestPlay
  | 30 => cX5_playOf
  | 31 => cX5_ease
  | 32 => cX5_sizeOfOneMore
  | 33 => cX5_pairsWith
  | 34 => cX6_copyFrom
  | 35 => cX6_parts
  | 36 => cX6_sortOf
  | 37 => cX6_hasRoom
  | 38 => cX6_put
  | 39 => cX6_countInSort
  | 40 => cX6_sortAnew
  | 41 => cX6_dropShaft
  | 42 => cX6_dropBore
  | 43 => cX6_empty
  | 44 => cX6_partsOfKind
  | 45 => cX6_shaftsOfGrade
  | 46 => cX6_shaftsFittedBy
  | 47 => cX6_begin
  | 48 => cX6_end
  | 49 => cX7_told
  | 50 => cX7_shaftAt
  | 51 => cX7_boreAt
  | 52 => cX7_gradeAt
  | 53 => cX7_sort
  | 54 => cX7_find
  | 55 => cX7_shaft
  | 56 => cX7_bore
  | 57 => cX7_takeShaft
  | 58 => cX7_takeBore
  | 59 => cX7_grade
  | 60 => cX7_putAway
  | 61 => cX7_batch
  | 62 => cX7_clear
  | 63 => cX7_undo
  | 64 => cX7_crowd
  | 65 => cX7_boxes
  | 66 => cX7_withBore
  | 67 => cX7_see
  | 68 => cX7_forget
  | 69 => cX7_seed
  | 70 => cX7_keep
  | 71 => cX7_goBack
  | 72 => cX7_pairUp
  | 73 => cX7_putAsDeed
  | 74 => cX7_draw
  | 75 => cX7_isIn
  | 76 => cX7_kindOf
  | 77 => cX7_gradeOf
  | 78 => cX7_sizeOf
  | 79 => cX8_in
  | 80 => cX8_copy
  | 81 => cX8_isGrade
  | 82 => cX8_isSize
  | 83 => cX8_isShaft
  | 84 => cX8_isBore
  | 85 => cX8_begin
  | 86 => cX8_end
  | 87 => cX8_fits
  | 88 => cX8_closesFirst
  | 89 => cX8_pairs
  | 90 => cX8_now
  | 91 => cX8_playOf
  | 92 => cX8_ease
  | 93 => cX8_more
  | 94 => cX8_isSo
  | 95 => cX8_laySizes
  | 96 => cX8_fitting
  | 97 => cX8_tryNext
  | 98 => cX8_sizesTell
  | 99 => cX8_told
  | 100 => cX8_sortOf
  | 101 => cX8_shaftTells
  | 102 => cX8_shaftAt
  | 103 => cX8_fitsMany
  | 104 => cX8_boreTells
  | 105 => cX8_boreAt
  | 106 => cX8_ofGrade
  | 107 => cX8_gradeAt
  | 108 => cX8_sort
  | 109 => cX8_find
  | 110 => cX8_remember
  | 111 => cX8_isRoomFor
  | 112 => cX8_comesSort
  | 113 => cX8_comes
  | 114 => cX8_shaft
  | 115 => cX8_bore
  | 116 => cX8_shaftGoes
  | 117 => cX8_boreGoes
  | 118 => cX8_takeShaft
  | 119 => cX8_takeBore
  | 120 => cX8_grade
  | 121 => cX8_putAway
  | 122 => cX8_draw
  | 123 => cX8_batch
  | 124 => cX8_clear
  | 125 => cX8_undo
  | 126 => cX8_shaftsWithin
  | 127 => cX8_boresWithin
  | 128 => cX8_crowd
  | 129 => cX8_keyOf
  | 130 => cX8_isAhead
  | 131 => cX8_lines
  | 132 => cX8_goesWith
  | 133 => cX8_boxes
  | 134 => cX8_withBore
  | 135 => cX8_see
  | 136 => cX8_forget
  | 137 => cX8_seed
  | 138 => cX8_keep
  | 139 => cX8_goBack
  | 140 => cJ9_floorMod_7cf53
  | 141 => cJ9_max_7cf53
  | 142 => cJ9_min_7cf53
  | _ => cX0_init
/-- locals, answer (0 none, 1 int, 2 boolean), height, parameters, the place of its code among the words, of its class initialised -/
def mm_qn : Nat → Nat × Nat × Nat × Nat × Nat × Nat
  | 0 => (4, 0, 3, 1, 619, 61)
  | 1 => (5, 0, 1, 3, 625, 61)
  | 2 => (4, 1, 4, 1, 630, 61)
  | 3 => (10, 0, 3, 2, 634, 61)
  | 4 => (6, 0, 2, 4, 640, 61)
  | 5 => (3, 0, 3, 1, 599, 60)
  | 6 => (8, 0, 2, 2, 603, 60)
  | 7 => (4, 1, 1, 2, 607, 60)
  | 8 => (6, 0, 1, 4, 611, 60)
  | 9 => (2, 0, 2, 1, 509, 58)
  | 10 => (3, 0, 2, 2, 588, 58)
  | 11 => (3, 1, 1, 2, 653, 62)
  | 12 => (3, 0, 3, 1, 402, 62)
  | 13 => (3, 0, 1, 2, 406, 62)
  | 14 => (4, 0, 2, 2, 412, 62)
  | 15 => (6, 0, 2, 2, 422, 62)
  | 16 => (1, 1, 3, 0, 426, 62)
  | 17 => (5, 1, 2, 2, 430, 62)
  | 18 => (3, 1, 1, 0, 434, 62)
  | 19 => (3, 1, 2, 0, 438, 62)
  | 20 => (8, 1, 4, 1, 442, 62)
  | 21 => (4, 0, 3, 1, 331, 59)
  | 22 => (5, 0, 2, 3, 353, 59)
  | 23 => (3, 2, 1, 2, 357, 59)
  | 24 => (3, 0, 1, 1, 361, 59)
  | 25 => (3, 0, 1, 0, 398, 59)
  | 26 => (6, 1, 2, 1, 365, 59)
  | 27 => (5, 1, 1, 2, 369, 59)
  | 28 => (3, 1, 2, 0, 373, 59)
  | 29 => (3, 1, 2, 0, 381, 59)
  | 30 => (2, 1, 1, 1, 377, 59)
  | 31 => (4, 1, 3, 0, 385, 59)
  | 32 => (5, 1, 4, 0, 390, 59)
  | 33 => (3, 1, 3, 1, 394, 59)
  | 34 => (2, 0, 1, 1, 513, 57)
  | 35 => (1, 1, 1, 0, 576, 57)
  | 36 => (3, 1, 1, 1, 458, 57)
  | 37 => (3, 2, 2, 1, 503, 57)
  | 38 => (2, 1, 3, 1, 521, 57)
  | 39 => (3, 0, 2, 1, 527, 57)
  | 40 => (2, 0, 3, 0, 675, 57)
  | 41 => (3, 0, 2, 1, 539, 57)
  | 42 => (3, 0, 2, 1, 547, 57)
  | 43 => (1, 0, 1, 0, 580, 57)
  | 44 => (4, 1, 1, 1, 484, 57)
  | 45 => (4, 1, 2, 1, 476, 57)
  | 46 => (4, 1, 3, 1, 466, 57)
  | 47 => (3, 1, 2, 1, 338, 57)
  | 48 => (3, 1, 2, 1, 349, 57)
  | 49 => (2, 1, 5, 1, 323, 56)
  | 50 => (3, 1, 5, 2, 448, 56)
  | 51 => (3, 1, 5, 2, 462, 56)
  | 52 => (3, 1, 3, 2, 472, 56)
  | 53 => (3, 1, 2, 2, 480, 56)
  | 54 => (3, 1, 2, 2, 488, 56)
  | 55 => (3, 1, 5, 2, 495, 56)
  | 56 => (2, 1, 5, 1, 531, 56)
  | 57 => (3, 1, 3, 1, 535, 56)
  | 58 => (3, 1, 3, 1, 543, 56)
  | 59 => (4, 1, 5, 3, 551, 56)
  | 60 => (3, 1, 5, 0, 555, 56)
  | 61 => (6, 1, 4, 1, 560, 56)
  | 62 => (2, 1, 3, 0, 572, 56)
  | 63 => (2, 1, 3, 1, 584, 56)
  | 64 => (2, 1, 4, 1, 595, 56)
  | 65 => (2, 1, 5, 1, 615, 56)
  | 66 => (2, 1, 4, 1, 644, 56)
  | 67 => (4, 1, 2, 3, 649, 56)
  | 68 => (2, 1, 1, 0, 658, 56)
  | 69 => (3, 1, 1, 1, 662, 56)
  | 70 => (2, 1, 2, 1, 666, 56)
  | 71 => (2, 1, 4, 1, 671, 56)
  | 72 => (1, 1, 4, 0, 327, 56)
  | 73 => (2, 1, 4, 1, 499, 56)
  | 74 => (2, 1, 1, 1, 564, 56)
  | 75 => (2, 2, 1, 2, 344, 56)
  | 76 => (2, 1, 1, 2, 491, 56)
  | 77 => (1, 1, 1, 1, 341, 56)
  | 78 => (1, 1, 1, 1, 334, 56)
  | 79 => (6, 3, 1, 3, 760, 64)
  | 80 => (4, 0, 1, 2, 872, 64)
  | 81 => (1, 2, 2, 1, 841, 64)
  | 82 => (1, 2, 2, 1, 775, 64)
  | 83 => (2, 2, 2, 1, 805, 64)
  | 84 => (2, 2, 2, 1, 822, 64)
  | 85 => (2, 1, 1, 1, 753, 64)
  | 86 => (2, 1, 1, 1, 757, 64)
  | 87 => (3, 2, 2, 2, 834, 64)
  | 88 => (6, 1, 2, 2, 749, 64)
  | 89 => (11, 1, 3, 2, 745, 64)
  | 90 => (1, 1, 4, 0, 741, 64)
  | 91 => (6, 1, 5, 1, 764, 64)
  | 92 => (4, 1, 4, 0, 768, 64)
  | 93 => (6, 1, 5, 0, 772, 64)
  | 94 => (5, 2, 2, 1, 788, 64)
  | 95 => (3, 0, 3, 0, 784, 64)
  | 96 => (4, 1, 3, 1, 796, 64)
  | 97 => (6, 1, 4, 0, 792, 64)
  | 98 => (2, 1, 4, 1, 780, 64)
  | 99 => (2, 1, 6, 1, 737, 64)
  | 100 => (4, 1, 1, 2, 813, 64)
  | 101 => (4, 1, 5, 2, 809, 64)
  | 102 => (3, 1, 6, 2, 801, 64)
  | 103 => (4, 1, 3, 1, 830, 64)
  | 104 => (4, 1, 5, 2, 826, 64)
  | 105 => (3, 1, 6, 2, 818, 64)
  | 106 => (4, 1, 1, 1, 846, 64)
  | 107 => (3, 1, 3, 2, 838, 64)
  | 108 => (3, 1, 2, 2, 850, 64)
  | 109 => (3, 1, 3, 2, 854, 64)
  | 110 => (2, 0, 2, 0, 868, 64)
  | 111 => (3, 2, 2, 2, 863, 64)
  | 112 => (4, 0, 2, 2, 880, 64)
  | 113 => (3, 0, 3, 2, 876, 64)
  | 114 => (3, 1, 4, 2, 859, 64)
  | 115 => (2, 1, 4, 1, 884, 64)
  | 116 => (3, 0, 2, 1, 892, 64)
  | 117 => (3, 0, 2, 1, 900, 64)
  | 118 => (3, 1, 3, 1, 888, 64)
  | 119 => (3, 1, 3, 1, 896, 64)
  | 120 => (4, 1, 5, 3, 904, 64)
  | 121 => (3, 1, 5, 0, 909, 64)
  | 122 => (2, 1, 1, 1, 919, 64)
  | 123 => (6, 1, 4, 1, 914, 64)
  | 124 => (2, 1, 3, 0, 927, 64)
  | 125 => (2, 1, 2, 1, 931, 64)
  | 126 => (5, 1, 2, 2, 940, 64)
  | 127 => (5, 1, 2, 2, 944, 64)
  | 128 => (11, 1, 3, 1, 936, 64)
  | 129 => (2, 1, 2, 1, 961, 64)
  | 130 => (3, 2, 3, 2, 957, 64)
  | 131 => (5, 1, 4, 0, 953, 64)
  | 132 => (8, 2, 3, 3, 965, 64)
  | 133 => (11, 1, 5, 1, 948, 64)
  | 134 => (2, 1, 4, 1, 969, 64)
  | 135 => (4, 1, 3, 3, 973, 64)
  | 136 => (2, 1, 1, 0, 977, 64)
  | 137 => (3, 1, 1, 1, 981, 64)
  | 138 => (2, 1, 2, 1, 985, 64)
  | 139 => (3, 1, 3, 1, 989, 64)
  | 140 => (3, 1, 1, 2, 591, 65)
  | 141 => (2, 1, 1, 2, 415, 65)
  | 142 => (2, 1, 1, 2, 418, 65)
  | _ => (0, 0, 0, 0, 0, 0)
def mm_rf : Nat → Option FieldType
  | 0 => none
  | 1 => some .int
  | _ => some .boolean
def mm_fl : List (Nat × Nat × Nat × Nat × Nat) := [(0, 9, 0, 0, 230), (0, 15, 0, 1, 231), (0, 18, 0, 2, 232), (0, 24, 0, 3, 233), (0, 27, 0, 4, 234), (0, 31, 6, 6, 100), (0, 36, 6, 0, 83), (0, 50, 6, 7, 104), (0, 53, 6, 1, 87), (1, 7, 1, 0, 201), (1, 13, 1, 1, 203), (1, 16, 1, 2, 205), (1, 19, 1, 3, 207), (1, 22, 1, 4, 209), (1, 25, 5, 8, 171), (1, 28, 5, 1, 157), (1, 40, 5, 3, 161), (1, 43, 5, 9, 173), (1, 44, 5, 5, 165), (1, 47, 5, 6, 167), (1, 50, 5, 2, 159), (2, 10, 2, 0, 282), (2, 16, 2, 1, 284), (2, 20, 2, 2, 286), (3, 11, 3, 0, 138), (3, 17, 3, 1, 139), (3, 21, 3, 2, 140), (4, 9, 4, 0, 253), (4, 15, 4, 1, 254), (4, 19, 4, 2, 255), (4, 22, 4, 3, 256), (4, 25, 4, 4, 257), (4, 29, 4, 5, 259), (4, 68, 6, 6, 102), (4, 71, 6, 0, 85), (5, 9, 5, 0, 155), (5, 15, 5, 1, 156), (5, 18, 5, 2, 158), (5, 21, 5, 3, 160), (5, 24, 5, 4, 162), (5, 27, 5, 5, 164), (5, 30, 5, 6, 166), (5, 33, 5, 7, 168), (5, 36, 5, 8, 170), (5, 40, 5, 9, 172), (5, 43, 6, 6, 99), (5, 48, 6, 0, 82), (5, 62, 6, 7, 105), (5, 65, 6, 1, 88), (6, 9, 6, 0, 81), (6, 15, 6, 1, 86), (6, 18, 6, 2, 90), (6, 21, 6, 3, 92), (6, 24, 6, 4, 94), (6, 27, 6, 5, 96), (6, 30, 6, 6, 98), (6, 34, 6, 7, 103), (6, 37, 6, 8, 107), (7, 10, 7, 0, 295), (7, 19, 7, 1, 296), (7, 26, 7, 2, 297), (7, 33, 7, 3, 298), (7, 40, 7, 4, 299), (7, 47, 7, 5, 300), (7, 53, 7, 6, 301), (7, 57, 7, 7, 302), (7, 62, 6, 6, 101), (7, 65, 6, 7, 106), (7, 68, 6, 8, 108), (7, 91, 4, 4, 258), (7, 110, 3, 2, 141), (7, 119, 6, 0, 84), (7, 130, 5, 4, 163), (7, 142, 6, 1, 89), (7, 145, 5, 7, 169), (7, 151, 6, 2, 91), (7, 154, 6, 3, 93), (7, 160, 6, 4, 95), (7, 166, 6, 5, 97), (7, 208, 1, 4, 210), (7, 211, 1, 0, 202), (7, 214, 1, 1, 204), (7, 217, 1, 2, 206), (7, 219, 1, 3, 208), (7, 231, 2, 0, 283), (7, 235, 2, 1, 285), (7, 238, 2, 2, 287), (8, 7, 8, 0, 682), (8, 13, 8, 1, 683), (8, 17, 8, 2, 684), (8, 20, 8, 5, 687), (8, 23, 8, 6, 688), (8, 26, 8, 7, 689), (8, 29, 8, 9, 691), (8, 32, 8, 10, 692), (8, 35, 8, 11, 693), (8, 38, 8, 15, 697), (8, 41, 8, 16, 698), (8, 44, 8, 4, 686), (8, 78, 8, 8, 690), (8, 81, 8, 12, 694), (8, 84, 8, 13, 695), (8, 87, 8, 14, 696), (8, 115, 8, 3, 685)]
def mm_kl : List (Nat × Nat × Int32 × Nat) := [(4, 32, -1000000004, 654), (6, 57, -1000000004, 523), (7, 113, -1000000002, 444), (7, 118, -1000000001, 450), (7, 186, -1000000003, 556), (7, 193, -1000000004, 505), (7, 258, 65536, 568), (8, 118, -1000000002, 797), (8, 128, -1000000001, 814), (8, 160, -1000000004, 864), (8, 176, -1000000003, 910), (8, 183, 65536, 923)]
def mm_ll : List (Nat × Nat × Int64 × Nat) := [(7, 252, 1103515245, 565), (7, 254, 12345, 566), (7, 256, 2147483648, 567), (8, 48, 3, 842), (8, 54, 9999, 776), (8, 148, 4, 855), (8, 174, 999, 905), (8, 177, 1103515245, 920), (8, 179, 12345, 921), (8, 181, 2147483648, 922), (8, 184, 20, 915), (8, 189, 16, 932), (8, 203, 9, 949)]
def mm_ml : List (Nat × Nat × Nat × Nat × Nat × Nat × Nat × Nat) := [(0, 39, 0, 47, 6, 620, 336, 337), (0, 43, 0, 48, 6, 621, 347, 348), (0, 46, 0, 1, 0, 622, 624, 17), (0, 56, 2, 78, 7, 626, 333, 0), (0, 59, 0, 3, 0, 631, 633, 18), (0, 63, 1, 142, 9, 635, 417, 0), (0, 69, 1, 141, 9, 636, 414, 0), (0, 72, 0, 4, 0, 637, 639, 19), (1, 32, 0, 6, 1, 600, 602, 14), (1, 36, 0, 7, 1, 604, 606, 15), (1, 53, 0, 8, 1, 608, 610, 16), (3, 25, 0, 34, 6, 510, 511, 512), (3, 29, 1, 142, 9, 517, 417, 0), (3, 35, 1, 140, 9, 589, 590, 0), (4, 33, 0, 13, 4, 403, 405, 7), (4, 37, 0, 47, 6, 407, 336, 337), (4, 43, 0, 48, 6, 408, 347, 348), (4, 46, 0, 14, 4, 409, 411, 8), (4, 49, 0, 15, 4, 419, 421, 9), (4, 52, 1, 141, 9, 413, 414, 0), (4, 58, 1, 142, 9, 416, 417, 0), (4, 61, 0, 17, 4, 427, 429, 10), (4, 64, 0, 16, 4, 443, 424, 425), (5, 50, 2, 78, 7, 332, 333, 0), (5, 54, 0, 47, 6, 335, 336, 337), (5, 56, 0, 48, 6, 346, 347, 348), (5, 58, 0, 22, 5, 350, 352, 1), (5, 67, 0, 24, 5, 358, 360, 3), (5, 71, 0, 23, 5, 354, 356, 2), (5, 75, 0, 27, 5, 366, 368, 4), (5, 79, 0, 30, 5, 374, 376, 5), (5, 82, 0, 26, 5, 386, 363, 364), (5, 85, 0, 33, 5, 391, 392, 393), (5, 88, 0, 25, 5, 395, 397, 6), (6, 40, 3, 0, 0, 514, 516, 515), (6, 46, 2, 77, 7, 339, 340, 0), (6, 50, 0, 36, 6, 504, 456, 457), (6, 53, 0, 37, 6, 522, 501, 502), (6, 58, 0, 39, 6, 524, 526, 12), (6, 62, 2, 75, 7, 342, 343, 0), (6, 66, 0, 47, 6, 467, 336, 337), (6, 69, 0, 48, 6, 468, 347, 348), (6, 72, 2, 78, 7, 345, 333, 0), (7, 71, 0, 72, 7, 324, 326, 0), (7, 75, 0, 28, 5, 370, 371, 372), (7, 78, 0, 29, 5, 378, 379, 380), (7, 81, 0, 21, 5, 328, 329, 330), (7, 85, 0, 31, 5, 382, 383, 384), (7, 88, 0, 32, 5, 387, 388, 389), (7, 94, 0, 12, 4, 399, 400, 401), (7, 97, 0, 16, 4, 423, 424, 425), (7, 100, 0, 18, 4, 431, 432, 433), (7, 103, 0, 19, 4, 435, 436, 437), (7, 106, 0, 20, 4, 439, 440, 441), (7, 114, 1, 75, 7, 449, 343, 0), (7, 123, 1, 77, 7, 451, 340, 0), (7, 127, 1, 78, 7, 452, 333, 0), (7, 133, 0, 47, 6, 453, 336, 337), (7, 136, 0, 48, 6, 454, 347, 348), (7, 139, 0, 36, 6, 455, 456, 457), (7, 148, 0, 46, 6, 463, 464, 465), (7, 157, 0, 45, 6, 473, 474, 475), (7, 163, 0, 44, 6, 481, 482, 483), (7, 169, 1, 76, 7, 489, 490, 0), (7, 173, 0, 73, 7, 496, 498, 11), (7, 176, 0, 9, 3, 506, 507, 508), (7, 179, 0, 41, 6, 536, 537, 538), (7, 183, 0, 42, 6, 544, 545, 546), (7, 187, 0, 74, 7, 561, 563, 13), (7, 190, 0, 38, 6, 518, 519, 520), (7, 194, 0, 35, 6, 573, 574, 575), (7, 197, 0, 43, 6, 577, 578, 579), (7, 200, 0, 10, 3, 585, 586, 587), (7, 204, 0, 5, 1, 596, 597, 598), (7, 221, 0, 0, 0, 616, 617, 618), (7, 222, 0, 2, 0, 627, 628, 629), (7, 225, 0, 33, 5, 645, 392, 393), (7, 228, 0, 11, 4, 650, 651, 652), (7, 232, 0, 34, 6, 667, 511, 512), (7, 242, 0, 40, 6, 672, 673, 674), (7, 245, 0, 26, 5, 362, 363, 364), (7, 248, 0, 37, 6, 500, 501, 502), (8, 50, 1, 79, 8, 758, 759, 0), (8, 56, 0, 85, 8, 750, 752, 23), (8, 60, 0, 86, 8, 754, 756, 24), (8, 63, 0, 88, 8, 746, 748, 22), (8, 67, 0, 89, 8, 742, 744, 21), (8, 70, 0, 90, 8, 738, 740, 20), (8, 74, 1, 82, 8, 773, 774, 0), (8, 90, 0, 94, 8, 785, 787, 30), (8, 93, 0, 95, 8, 781, 783, 29), (8, 96, 0, 96, 8, 793, 795, 32), (8, 99, 0, 91, 8, 761, 763, 25), (8, 103, 0, 92, 8, 765, 767, 26), (8, 106, 0, 93, 8, 769, 771, 27), (8, 109, 0, 98, 8, 777, 779, 28), (8, 112, 0, 97, 8, 789, 791, 31), (8, 119, 0, 100, 8, 810, 812, 35), (8, 122, 0, 83, 8, 802, 804, 33), (8, 125, 0, 101, 8, 806, 808, 34), (8, 129, 0, 87, 8, 831, 833, 39), (8, 133, 0, 103, 8, 827, 829, 38), (8, 136, 0, 84, 8, 819, 821, 36), (8, 139, 0, 104, 8, 823, 825, 37), (8, 142, 1, 81, 8, 839, 840, 0), (8, 145, 0, 106, 8, 843, 845, 40), (8, 150, 0, 80, 8, 869, 871, 43), (8, 154, 0, 112, 8, 877, 879, 45), (8, 157, 0, 111, 8, 860, 862, 41), (8, 161, 0, 110, 8, 865, 867, 42), (8, 164, 0, 113, 8, 873, 875, 44), (8, 167, 0, 116, 8, 889, 891, 46), (8, 171, 0, 117, 8, 897, 899, 47), (8, 186, 0, 122, 8, 916, 918, 48), (8, 191, 0, 126, 8, 937, 939, 49), (8, 194, 0, 127, 8, 941, 943, 50), (8, 197, 0, 129, 8, 958, 960, 53), (8, 200, 0, 130, 8, 954, 956, 52), (8, 205, 0, 131, 8, 950, 952, 51), (8, 208, 0, 132, 8, 962, 964, 54)]
def mm_ft (o i : Nat) : Option (Nat × Nat × Nat) := (mm_fl.find? (fun q => q.1 == o && q.2.1 == i)).map (fun q => (q.2.2.1, q.2.2.2.1, q.2.2.2.2))
def mm_kt (o i : Nat) : Option (Int32 × Nat) := (mm_kl.find? (fun q => q.1 == o && q.2.1 == i)).map (fun q => (q.2.2.1, q.2.2.2))
def mm_lt (o i : Nat) : Option (Int64 × Nat) := (mm_ll.find? (fun q => q.1 == o && q.2.1 == i)).map (fun q => (q.2.2.1, q.2.2.2))
def mm_mt (o i : Nat) : Option (Nat × Nat × Nat × Nat × Nat × Nat) := (mm_ml.find? (fun q => q.1 == o && q.2.1 == i)).map (fun q => (q.2.2.1, q.2.2.2.1, q.2.2.2.2.1, q.2.2.2.2.2.1, q.2.2.2.2.2.2.1, q.2.2.2.2.2.2.2))
theorem ft_0_9 : mm_ft 0 9 = some (0, 0, 230) := by decide +kernel
theorem ft_0_15 : mm_ft 0 15 = some (0, 1, 231) := by decide +kernel
theorem ft_0_18 : mm_ft 0 18 = some (0, 2, 232) := by decide +kernel
theorem ft_0_24 : mm_ft 0 24 = some (0, 3, 233) := by decide +kernel
theorem ft_0_27 : mm_ft 0 27 = some (0, 4, 234) := by decide +kernel
theorem ft_0_31 : mm_ft 0 31 = some (6, 6, 100) := by decide +kernel
theorem ft_0_36 : mm_ft 0 36 = some (6, 0, 83) := by decide +kernel
theorem ft_0_50 : mm_ft 0 50 = some (6, 7, 104) := by decide +kernel
theorem ft_0_53 : mm_ft 0 53 = some (6, 1, 87) := by decide +kernel
theorem ft_1_7 : mm_ft 1 7 = some (1, 0, 201) := by decide +kernel
theorem ft_1_13 : mm_ft 1 13 = some (1, 1, 203) := by decide +kernel
theorem ft_1_16 : mm_ft 1 16 = some (1, 2, 205) := by decide +kernel
theorem ft_1_19 : mm_ft 1 19 = some (1, 3, 207) := by decide +kernel
theorem ft_1_22 : mm_ft 1 22 = some (1, 4, 209) := by decide +kernel
theorem ft_1_25 : mm_ft 1 25 = some (5, 8, 171) := by decide +kernel
theorem ft_1_28 : mm_ft 1 28 = some (5, 1, 157) := by decide +kernel
theorem ft_1_40 : mm_ft 1 40 = some (5, 3, 161) := by decide +kernel
theorem ft_1_43 : mm_ft 1 43 = some (5, 9, 173) := by decide +kernel
theorem ft_1_44 : mm_ft 1 44 = some (5, 5, 165) := by decide +kernel
theorem ft_1_47 : mm_ft 1 47 = some (5, 6, 167) := by decide +kernel
theorem ft_1_50 : mm_ft 1 50 = some (5, 2, 159) := by decide +kernel
theorem ft_2_10 : mm_ft 2 10 = some (2, 0, 282) := by decide +kernel
theorem ft_2_16 : mm_ft 2 16 = some (2, 1, 284) := by decide +kernel
theorem ft_2_20 : mm_ft 2 20 = some (2, 2, 286) := by decide +kernel
theorem ft_3_11 : mm_ft 3 11 = some (3, 0, 138) := by decide +kernel
theorem ft_3_17 : mm_ft 3 17 = some (3, 1, 139) := by decide +kernel
theorem ft_3_21 : mm_ft 3 21 = some (3, 2, 140) := by decide +kernel
theorem ft_4_9 : mm_ft 4 9 = some (4, 0, 253) := by decide +kernel
theorem ft_4_15 : mm_ft 4 15 = some (4, 1, 254) := by decide +kernel
theorem ft_4_19 : mm_ft 4 19 = some (4, 2, 255) := by decide +kernel
theorem ft_4_22 : mm_ft 4 22 = some (4, 3, 256) := by decide +kernel
theorem ft_4_25 : mm_ft 4 25 = some (4, 4, 257) := by decide +kernel
theorem ft_4_29 : mm_ft 4 29 = some (4, 5, 259) := by decide +kernel
theorem ft_4_68 : mm_ft 4 68 = some (6, 6, 102) := by decide +kernel
theorem ft_4_71 : mm_ft 4 71 = some (6, 0, 85) := by decide +kernel
theorem ft_5_9 : mm_ft 5 9 = some (5, 0, 155) := by decide +kernel
theorem ft_5_15 : mm_ft 5 15 = some (5, 1, 156) := by decide +kernel
theorem ft_5_18 : mm_ft 5 18 = some (5, 2, 158) := by decide +kernel
theorem ft_5_21 : mm_ft 5 21 = some (5, 3, 160) := by decide +kernel
theorem ft_5_24 : mm_ft 5 24 = some (5, 4, 162) := by decide +kernel
theorem ft_5_27 : mm_ft 5 27 = some (5, 5, 164) := by decide +kernel
theorem ft_5_30 : mm_ft 5 30 = some (5, 6, 166) := by decide +kernel
theorem ft_5_33 : mm_ft 5 33 = some (5, 7, 168) := by decide +kernel
theorem ft_5_36 : mm_ft 5 36 = some (5, 8, 170) := by decide +kernel
theorem ft_5_40 : mm_ft 5 40 = some (5, 9, 172) := by decide +kernel
theorem ft_5_43 : mm_ft 5 43 = some (6, 6, 99) := by decide +kernel
theorem ft_5_48 : mm_ft 5 48 = some (6, 0, 82) := by decide +kernel
theorem ft_5_62 : mm_ft 5 62 = some (6, 7, 105) := by decide +kernel
theorem ft_5_65 : mm_ft 5 65 = some (6, 1, 88) := by decide +kernel
theorem ft_6_9 : mm_ft 6 9 = some (6, 0, 81) := by decide +kernel
theorem ft_6_15 : mm_ft 6 15 = some (6, 1, 86) := by decide +kernel
theorem ft_6_18 : mm_ft 6 18 = some (6, 2, 90) := by decide +kernel
theorem ft_6_21 : mm_ft 6 21 = some (6, 3, 92) := by decide +kernel
theorem ft_6_24 : mm_ft 6 24 = some (6, 4, 94) := by decide +kernel
theorem ft_6_27 : mm_ft 6 27 = some (6, 5, 96) := by decide +kernel
theorem ft_6_30 : mm_ft 6 30 = some (6, 6, 98) := by decide +kernel
theorem ft_6_34 : mm_ft 6 34 = some (6, 7, 103) := by decide +kernel
theorem ft_6_37 : mm_ft 6 37 = some (6, 8, 107) := by decide +kernel
theorem ft_7_10 : mm_ft 7 10 = some (7, 0, 295) := by decide +kernel
theorem ft_7_19 : mm_ft 7 19 = some (7, 1, 296) := by decide +kernel
theorem ft_7_26 : mm_ft 7 26 = some (7, 2, 297) := by decide +kernel
theorem ft_7_33 : mm_ft 7 33 = some (7, 3, 298) := by decide +kernel
theorem ft_7_40 : mm_ft 7 40 = some (7, 4, 299) := by decide +kernel
theorem ft_7_47 : mm_ft 7 47 = some (7, 5, 300) := by decide +kernel
theorem ft_7_53 : mm_ft 7 53 = some (7, 6, 301) := by decide +kernel
theorem ft_7_57 : mm_ft 7 57 = some (7, 7, 302) := by decide +kernel
theorem ft_7_62 : mm_ft 7 62 = some (6, 6, 101) := by decide +kernel
theorem ft_7_65 : mm_ft 7 65 = some (6, 7, 106) := by decide +kernel
theorem ft_7_68 : mm_ft 7 68 = some (6, 8, 108) := by decide +kernel
theorem ft_7_91 : mm_ft 7 91 = some (4, 4, 258) := by decide +kernel
theorem ft_7_110 : mm_ft 7 110 = some (3, 2, 141) := by decide +kernel
theorem ft_7_119 : mm_ft 7 119 = some (6, 0, 84) := by decide +kernel
theorem ft_7_130 : mm_ft 7 130 = some (5, 4, 163) := by decide +kernel
theorem ft_7_142 : mm_ft 7 142 = some (6, 1, 89) := by decide +kernel
theorem ft_7_145 : mm_ft 7 145 = some (5, 7, 169) := by decide +kernel
theorem ft_7_151 : mm_ft 7 151 = some (6, 2, 91) := by decide +kernel
theorem ft_7_154 : mm_ft 7 154 = some (6, 3, 93) := by decide +kernel
theorem ft_7_160 : mm_ft 7 160 = some (6, 4, 95) := by decide +kernel
theorem ft_7_166 : mm_ft 7 166 = some (6, 5, 97) := by decide +kernel
theorem ft_7_208 : mm_ft 7 208 = some (1, 4, 210) := by decide +kernel
theorem ft_7_211 : mm_ft 7 211 = some (1, 0, 202) := by decide +kernel
theorem ft_7_214 : mm_ft 7 214 = some (1, 1, 204) := by decide +kernel
theorem ft_7_217 : mm_ft 7 217 = some (1, 2, 206) := by decide +kernel
theorem ft_7_219 : mm_ft 7 219 = some (1, 3, 208) := by decide +kernel
theorem ft_7_231 : mm_ft 7 231 = some (2, 0, 283) := by decide +kernel
theorem ft_7_235 : mm_ft 7 235 = some (2, 1, 285) := by decide +kernel
theorem ft_7_238 : mm_ft 7 238 = some (2, 2, 287) := by decide +kernel
theorem ft_8_7 : mm_ft 8 7 = some (8, 0, 682) := by decide +kernel
theorem ft_8_13 : mm_ft 8 13 = some (8, 1, 683) := by decide +kernel
theorem ft_8_17 : mm_ft 8 17 = some (8, 2, 684) := by decide +kernel
theorem ft_8_20 : mm_ft 8 20 = some (8, 5, 687) := by decide +kernel
theorem ft_8_23 : mm_ft 8 23 = some (8, 6, 688) := by decide +kernel
theorem ft_8_26 : mm_ft 8 26 = some (8, 7, 689) := by decide +kernel
theorem ft_8_29 : mm_ft 8 29 = some (8, 9, 691) := by decide +kernel
theorem ft_8_32 : mm_ft 8 32 = some (8, 10, 692) := by decide +kernel
theorem ft_8_35 : mm_ft 8 35 = some (8, 11, 693) := by decide +kernel
theorem ft_8_38 : mm_ft 8 38 = some (8, 15, 697) := by decide +kernel
theorem ft_8_41 : mm_ft 8 41 = some (8, 16, 698) := by decide +kernel
theorem ft_8_44 : mm_ft 8 44 = some (8, 4, 686) := by decide +kernel
theorem ft_8_78 : mm_ft 8 78 = some (8, 8, 690) := by decide +kernel
theorem ft_8_81 : mm_ft 8 81 = some (8, 12, 694) := by decide +kernel
theorem ft_8_84 : mm_ft 8 84 = some (8, 13, 695) := by decide +kernel
theorem ft_8_87 : mm_ft 8 87 = some (8, 14, 696) := by decide +kernel
theorem ft_8_115 : mm_ft 8 115 = some (8, 3, 685) := by decide +kernel
theorem kt_4_32 : mm_kt 4 32 = some (-1000000004, 654) := by decide +kernel
theorem kt_6_57 : mm_kt 6 57 = some (-1000000004, 523) := by decide +kernel
theorem kt_7_113 : mm_kt 7 113 = some (-1000000002, 444) := by decide +kernel
theorem kt_7_118 : mm_kt 7 118 = some (-1000000001, 450) := by decide +kernel
theorem kt_7_186 : mm_kt 7 186 = some (-1000000003, 556) := by decide +kernel
theorem kt_7_193 : mm_kt 7 193 = some (-1000000004, 505) := by decide +kernel
theorem kt_7_258 : mm_kt 7 258 = some (65536, 568) := by decide +kernel
theorem kt_8_118 : mm_kt 8 118 = some (-1000000002, 797) := by decide +kernel
theorem kt_8_128 : mm_kt 8 128 = some (-1000000001, 814) := by decide +kernel
theorem kt_8_160 : mm_kt 8 160 = some (-1000000004, 864) := by decide +kernel
theorem kt_8_176 : mm_kt 8 176 = some (-1000000003, 910) := by decide +kernel
theorem kt_8_183 : mm_kt 8 183 = some (65536, 923) := by decide +kernel
theorem lt_7_252 : mm_lt 7 252 = some (1103515245, 565) := by decide +kernel
theorem lt_7_254 : mm_lt 7 254 = some (12345, 566) := by decide +kernel
theorem lt_7_256 : mm_lt 7 256 = some (2147483648, 567) := by decide +kernel
theorem lt_8_48 : mm_lt 8 48 = some (3, 842) := by decide +kernel
theorem lt_8_54 : mm_lt 8 54 = some (9999, 776) := by decide +kernel
theorem lt_8_148 : mm_lt 8 148 = some (4, 855) := by decide +kernel
theorem lt_8_174 : mm_lt 8 174 = some (999, 905) := by decide +kernel
theorem lt_8_177 : mm_lt 8 177 = some (1103515245, 920) := by decide +kernel
theorem lt_8_179 : mm_lt 8 179 = some (12345, 921) := by decide +kernel
theorem lt_8_181 : mm_lt 8 181 = some (2147483648, 922) := by decide +kernel
theorem lt_8_184 : mm_lt 8 184 = some (20, 915) := by decide +kernel
theorem lt_8_189 : mm_lt 8 189 = some (16, 932) := by decide +kernel
theorem lt_8_203 : mm_lt 8 203 = some (9, 949) := by decide +kernel
theorem mt_0_39 : mm_mt 0 39 = some (0, 47, 6, 620, 336, 337) := by decide +kernel
theorem mt_0_43 : mm_mt 0 43 = some (0, 48, 6, 621, 347, 348) := by decide +kernel
theorem mt_0_46 : mm_mt 0 46 = some (0, 1, 0, 622, 624, 17) := by decide +kernel
theorem mt_0_56 : mm_mt 0 56 = some (2, 78, 7, 626, 333, 0) := by decide +kernel
theorem mt_0_59 : mm_mt 0 59 = some (0, 3, 0, 631, 633, 18) := by decide +kernel
theorem mt_0_63 : mm_mt 0 63 = some (1, 142, 9, 635, 417, 0) := by decide +kernel
theorem mt_0_69 : mm_mt 0 69 = some (1, 141, 9, 636, 414, 0) := by decide +kernel
theorem mt_0_72 : mm_mt 0 72 = some (0, 4, 0, 637, 639, 19) := by decide +kernel
theorem mt_1_32 : mm_mt 1 32 = some (0, 6, 1, 600, 602, 14) := by decide +kernel
theorem mt_1_36 : mm_mt 1 36 = some (0, 7, 1, 604, 606, 15) := by decide +kernel
theorem mt_1_53 : mm_mt 1 53 = some (0, 8, 1, 608, 610, 16) := by decide +kernel
theorem mt_3_25 : mm_mt 3 25 = some (0, 34, 6, 510, 511, 512) := by decide +kernel
theorem mt_3_29 : mm_mt 3 29 = some (1, 142, 9, 517, 417, 0) := by decide +kernel
theorem mt_3_35 : mm_mt 3 35 = some (1, 140, 9, 589, 590, 0) := by decide +kernel
theorem mt_4_33 : mm_mt 4 33 = some (0, 13, 4, 403, 405, 7) := by decide +kernel
theorem mt_4_37 : mm_mt 4 37 = some (0, 47, 6, 407, 336, 337) := by decide +kernel
theorem mt_4_43 : mm_mt 4 43 = some (0, 48, 6, 408, 347, 348) := by decide +kernel
theorem mt_4_46 : mm_mt 4 46 = some (0, 14, 4, 409, 411, 8) := by decide +kernel
theorem mt_4_49 : mm_mt 4 49 = some (0, 15, 4, 419, 421, 9) := by decide +kernel
theorem mt_4_52 : mm_mt 4 52 = some (1, 141, 9, 413, 414, 0) := by decide +kernel
theorem mt_4_58 : mm_mt 4 58 = some (1, 142, 9, 416, 417, 0) := by decide +kernel
theorem mt_4_61 : mm_mt 4 61 = some (0, 17, 4, 427, 429, 10) := by decide +kernel
theorem mt_4_64 : mm_mt 4 64 = some (0, 16, 4, 443, 424, 425) := by decide +kernel
theorem mt_5_50 : mm_mt 5 50 = some (2, 78, 7, 332, 333, 0) := by decide +kernel
theorem mt_5_54 : mm_mt 5 54 = some (0, 47, 6, 335, 336, 337) := by decide +kernel
theorem mt_5_56 : mm_mt 5 56 = some (0, 48, 6, 346, 347, 348) := by decide +kernel
theorem mt_5_58 : mm_mt 5 58 = some (0, 22, 5, 350, 352, 1) := by decide +kernel
theorem mt_5_67 : mm_mt 5 67 = some (0, 24, 5, 358, 360, 3) := by decide +kernel
theorem mt_5_71 : mm_mt 5 71 = some (0, 23, 5, 354, 356, 2) := by decide +kernel
theorem mt_5_75 : mm_mt 5 75 = some (0, 27, 5, 366, 368, 4) := by decide +kernel
theorem mt_5_79 : mm_mt 5 79 = some (0, 30, 5, 374, 376, 5) := by decide +kernel
theorem mt_5_82 : mm_mt 5 82 = some (0, 26, 5, 386, 363, 364) := by decide +kernel
theorem mt_5_85 : mm_mt 5 85 = some (0, 33, 5, 391, 392, 393) := by decide +kernel
theorem mt_5_88 : mm_mt 5 88 = some (0, 25, 5, 395, 397, 6) := by decide +kernel
theorem mt_6_40 : mm_mt 6 40 = some (3, 0, 0, 514, 516, 515) := by decide +kernel
theorem mt_6_46 : mm_mt 6 46 = some (2, 77, 7, 339, 340, 0) := by decide +kernel
theorem mt_6_50 : mm_mt 6 50 = some (0, 36, 6, 504, 456, 457) := by decide +kernel
theorem mt_6_53 : mm_mt 6 53 = some (0, 37, 6, 522, 501, 502) := by decide +kernel
theorem mt_6_58 : mm_mt 6 58 = some (0, 39, 6, 524, 526, 12) := by decide +kernel
theorem mt_6_62 : mm_mt 6 62 = some (2, 75, 7, 342, 343, 0) := by decide +kernel
theorem mt_6_66 : mm_mt 6 66 = some (0, 47, 6, 467, 336, 337) := by decide +kernel
theorem mt_6_69 : mm_mt 6 69 = some (0, 48, 6, 468, 347, 348) := by decide +kernel
theorem mt_6_72 : mm_mt 6 72 = some (2, 78, 7, 345, 333, 0) := by decide +kernel
theorem mt_7_71 : mm_mt 7 71 = some (0, 72, 7, 324, 326, 0) := by decide +kernel
theorem mt_7_75 : mm_mt 7 75 = some (0, 28, 5, 370, 371, 372) := by decide +kernel
theorem mt_7_78 : mm_mt 7 78 = some (0, 29, 5, 378, 379, 380) := by decide +kernel
theorem mt_7_81 : mm_mt 7 81 = some (0, 21, 5, 328, 329, 330) := by decide +kernel
theorem mt_7_85 : mm_mt 7 85 = some (0, 31, 5, 382, 383, 384) := by decide +kernel
theorem mt_7_88 : mm_mt 7 88 = some (0, 32, 5, 387, 388, 389) := by decide +kernel
theorem mt_7_94 : mm_mt 7 94 = some (0, 12, 4, 399, 400, 401) := by decide +kernel
theorem mt_7_97 : mm_mt 7 97 = some (0, 16, 4, 423, 424, 425) := by decide +kernel
theorem mt_7_100 : mm_mt 7 100 = some (0, 18, 4, 431, 432, 433) := by decide +kernel
theorem mt_7_103 : mm_mt 7 103 = some (0, 19, 4, 435, 436, 437) := by decide +kernel
theorem mt_7_106 : mm_mt 7 106 = some (0, 20, 4, 439, 440, 441) := by decide +kernel
theorem mt_7_114 : mm_mt 7 114 = some (1, 75, 7, 449, 343, 0) := by decide +kernel
theorem mt_7_123 : mm_mt 7 123 = some (1, 77, 7, 451, 340, 0) := by decide +kernel
theorem mt_7_127 : mm_mt 7 127 = some (1, 78, 7, 452, 333, 0) := by decide +kernel
theorem mt_7_133 : mm_mt 7 133 = some (0, 47, 6, 453, 336, 337) := by decide +kernel
theorem mt_7_136 : mm_mt 7 136 = some (0, 48, 6, 454, 347, 348) := by decide +kernel
theorem mt_7_139 : mm_mt 7 139 = some (0, 36, 6, 455, 456, 457) := by decide +kernel
theorem mt_7_148 : mm_mt 7 148 = some (0, 46, 6, 463, 464, 465) := by decide +kernel
theorem mt_7_157 : mm_mt 7 157 = some (0, 45, 6, 473, 474, 475) := by decide +kernel
theorem mt_7_163 : mm_mt 7 163 = some (0, 44, 6, 481, 482, 483) := by decide +kernel
theorem mt_7_169 : mm_mt 7 169 = some (1, 76, 7, 489, 490, 0) := by decide +kernel
theorem mt_7_173 : mm_mt 7 173 = some (0, 73, 7, 496, 498, 11) := by decide +kernel
theorem mt_7_176 : mm_mt 7 176 = some (0, 9, 3, 506, 507, 508) := by decide +kernel
theorem mt_7_179 : mm_mt 7 179 = some (0, 41, 6, 536, 537, 538) := by decide +kernel
theorem mt_7_183 : mm_mt 7 183 = some (0, 42, 6, 544, 545, 546) := by decide +kernel
theorem mt_7_187 : mm_mt 7 187 = some (0, 74, 7, 561, 563, 13) := by decide +kernel
theorem mt_7_190 : mm_mt 7 190 = some (0, 38, 6, 518, 519, 520) := by decide +kernel
theorem mt_7_194 : mm_mt 7 194 = some (0, 35, 6, 573, 574, 575) := by decide +kernel
theorem mt_7_197 : mm_mt 7 197 = some (0, 43, 6, 577, 578, 579) := by decide +kernel
theorem mt_7_200 : mm_mt 7 200 = some (0, 10, 3, 585, 586, 587) := by decide +kernel
theorem mt_7_204 : mm_mt 7 204 = some (0, 5, 1, 596, 597, 598) := by decide +kernel
theorem mt_7_221 : mm_mt 7 221 = some (0, 0, 0, 616, 617, 618) := by decide +kernel
theorem mt_7_222 : mm_mt 7 222 = some (0, 2, 0, 627, 628, 629) := by decide +kernel
theorem mt_7_225 : mm_mt 7 225 = some (0, 33, 5, 645, 392, 393) := by decide +kernel
theorem mt_7_228 : mm_mt 7 228 = some (0, 11, 4, 650, 651, 652) := by decide +kernel
theorem mt_7_232 : mm_mt 7 232 = some (0, 34, 6, 667, 511, 512) := by decide +kernel
theorem mt_7_242 : mm_mt 7 242 = some (0, 40, 6, 672, 673, 674) := by decide +kernel
theorem mt_7_245 : mm_mt 7 245 = some (0, 26, 5, 362, 363, 364) := by decide +kernel
theorem mt_7_248 : mm_mt 7 248 = some (0, 37, 6, 500, 501, 502) := by decide +kernel
theorem mt_8_50 : mm_mt 8 50 = some (1, 79, 8, 758, 759, 0) := by decide +kernel
theorem mt_8_56 : mm_mt 8 56 = some (0, 85, 8, 750, 752, 23) := by decide +kernel
theorem mt_8_60 : mm_mt 8 60 = some (0, 86, 8, 754, 756, 24) := by decide +kernel
theorem mt_8_63 : mm_mt 8 63 = some (0, 88, 8, 746, 748, 22) := by decide +kernel
theorem mt_8_67 : mm_mt 8 67 = some (0, 89, 8, 742, 744, 21) := by decide +kernel
theorem mt_8_70 : mm_mt 8 70 = some (0, 90, 8, 738, 740, 20) := by decide +kernel
theorem mt_8_74 : mm_mt 8 74 = some (1, 82, 8, 773, 774, 0) := by decide +kernel
theorem mt_8_90 : mm_mt 8 90 = some (0, 94, 8, 785, 787, 30) := by decide +kernel
theorem mt_8_93 : mm_mt 8 93 = some (0, 95, 8, 781, 783, 29) := by decide +kernel
theorem mt_8_96 : mm_mt 8 96 = some (0, 96, 8, 793, 795, 32) := by decide +kernel
theorem mt_8_99 : mm_mt 8 99 = some (0, 91, 8, 761, 763, 25) := by decide +kernel
theorem mt_8_103 : mm_mt 8 103 = some (0, 92, 8, 765, 767, 26) := by decide +kernel
theorem mt_8_106 : mm_mt 8 106 = some (0, 93, 8, 769, 771, 27) := by decide +kernel
theorem mt_8_109 : mm_mt 8 109 = some (0, 98, 8, 777, 779, 28) := by decide +kernel
theorem mt_8_112 : mm_mt 8 112 = some (0, 97, 8, 789, 791, 31) := by decide +kernel
theorem mt_8_119 : mm_mt 8 119 = some (0, 100, 8, 810, 812, 35) := by decide +kernel
theorem mt_8_122 : mm_mt 8 122 = some (0, 83, 8, 802, 804, 33) := by decide +kernel
theorem mt_8_125 : mm_mt 8 125 = some (0, 101, 8, 806, 808, 34) := by decide +kernel
theorem mt_8_129 : mm_mt 8 129 = some (0, 87, 8, 831, 833, 39) := by decide +kernel
theorem mt_8_133 : mm_mt 8 133 = some (0, 103, 8, 827, 829, 38) := by decide +kernel
theorem mt_8_136 : mm_mt 8 136 = some (0, 84, 8, 819, 821, 36) := by decide +kernel
theorem mt_8_139 : mm_mt 8 139 = some (0, 104, 8, 823, 825, 37) := by decide +kernel
theorem mt_8_142 : mm_mt 8 142 = some (1, 81, 8, 839, 840, 0) := by decide +kernel
theorem mt_8_145 : mm_mt 8 145 = some (0, 106, 8, 843, 845, 40) := by decide +kernel
theorem mt_8_150 : mm_mt 8 150 = some (0, 80, 8, 869, 871, 43) := by decide +kernel
theorem mt_8_154 : mm_mt 8 154 = some (0, 112, 8, 877, 879, 45) := by decide +kernel
theorem mt_8_157 : mm_mt 8 157 = some (0, 111, 8, 860, 862, 41) := by decide +kernel
theorem mt_8_161 : mm_mt 8 161 = some (0, 110, 8, 865, 867, 42) := by decide +kernel
theorem mt_8_164 : mm_mt 8 164 = some (0, 113, 8, 873, 875, 44) := by decide +kernel
theorem mt_8_167 : mm_mt 8 167 = some (0, 116, 8, 889, 891, 46) := by decide +kernel
theorem mt_8_171 : mm_mt 8 171 = some (0, 117, 8, 897, 899, 47) := by decide +kernel
theorem mt_8_186 : mm_mt 8 186 = some (0, 122, 8, 916, 918, 48) := by decide +kernel
theorem mt_8_191 : mm_mt 8 191 = some (0, 126, 8, 937, 939, 49) := by decide +kernel
theorem mt_8_194 : mm_mt 8 194 = some (0, 127, 8, 941, 943, 50) := by decide +kernel
theorem mt_8_197 : mm_mt 8 197 = some (0, 129, 8, 958, 960, 53) := by decide +kernel
theorem mt_8_200 : mm_mt 8 200 = some (0, 130, 8, 954, 956, 52) := by decide +kernel
theorem mt_8_205 : mm_mt 8 205 = some (0, 131, 8, 950, 952, 51) := by decide +kernel
theorem mt_8_208 : mm_mt 8 208 = some (0, 132, 8, 962, 964, 54) := by decide +kernel
theorem mm_find {α : Type} {l : List α} {f : α → Bool} {P : α → Prop} (h : ∀ q ∈ l, P q) {q : α} (hq : l.find? f = some q) : P q := h q (List.mem_of_find?_eq_some hq)
theorem mm_all_of {α : Type} {l : List α} {f : α → Bool} (h : l.all f = true) : ∀ q ∈ l, f q = true := List.all_eq_true.mp h
/-- the words that every method has: those of the tables that hold in every state of the same tables -/
def mm_gt : List Cond := lw_tbl.filter goodWord
theorem mm_gw {i : Nat} {w : Cond} (h : lw_tbl[i]? = some w) (g : goodWord w = true) : w ∈ mm_gt := List.mem_filter.mpr ⟨List.mem_of_getElem? h, g⟩
def mm_w1 (i : Nat) (w : Cond) : Bool := decide (lw_tbl[i]? = some w) && goodWord w
theorem mm_w1_in {i : Nat} {w : Cond} (h : mm_w1 i w = true) : w ∈ mm_gt := by
  simp only [mm_w1, Bool.and_eq_true, decide_eq_true_eq] at h
  exact mm_gw h.1 h.2
def mm_fchk (q : Nat × Nat × Nat × Nat × Nat) : Bool := match vwCl[q.2.2.1]? with
  | some r => decide (q.2.2.2.1 < r.2.2) && mm_w1 q.2.2.2.2 (.fieldLink (mm_rn q.1) q.2.1 (r.2.1 q.2.2.2.1).1 (r.2.1 q.2.2.2.1).2.1 (r.2.1 q.2.2.2.1).2.2.1)
  | none => false
set_option maxRecDepth 100000 in
theorem mm_fl_ok : mm_fl.all mm_fchk = true := by decide +kernel
set_option maxRecDepth 100000 in
theorem mm_kl_ok : mm_kl.all (fun q => mm_w1 q.2.2.2 (.constant (mm_rn q.1) q.2.1 q.2.2.1)) = true := by decide +kernel
set_option maxRecDepth 100000 in
theorem mm_ll_ok : mm_ll.all (fun q => mm_w1 q.2.2.2 (.constantLong (mm_rn q.1) q.2.1 q.2.2.1)) = true := by decide +kernel
def mm_mchk (q : Nat × Nat × Nat × Nat × Nat × Nat × Nat × Nat) : Bool := match q with
  | (o, i, 0, m, c, a, b, d) => mm_w1 a (.methodLink (mm_rn o) i (mm_yn m)) && mm_w1 b (.instanceMethod (mm_yn m)) && mm_w1 d (.selects (mm_rn c) (mm_yn m) (mm_yn m)) && decide ((mm_yn m).cls = mm_rn c) && decide (c < 9)
  | (o, i, 1, m, _, a, b, _) => mm_w1 a (.methodLink (mm_rn o) i (mm_yn m)) && mm_w1 b (.static (mm_yn m))
  | (o, i, 2, m, _, a, b, _) => decide (lw_tbl[a]? = some (.methodLinkNest (mm_rn o) i (mm_yn m) "BoreSpans")) && mm_w1 b (.static (mm_yn m))
  | (o, i, 3, _, _, a, b, d) => mm_w1 a (.methodLink (mm_rn o) i arraycopyName) && mm_w1 b (.native arraycopyName) && mm_w1 d (.static arraycopyName)
  | _ => false
set_option maxRecDepth 100000 in
theorem mm_ml_ok : mm_ml.all mm_mchk = true := by decide +kernel
set_option maxRecDepth 20000 in
theorem mw_0 : lw_tbl[619]? = some (.code (mm_yn 0) (mm_cn 0) 4 (mm_rf 0)) := rfl
set_option maxRecDepth 20000 in
theorem mw_1 : lw_tbl[625]? = some (.code (mm_yn 1) (mm_cn 1) 5 (mm_rf 0)) := rfl
set_option maxRecDepth 20000 in
theorem mw_2 : lw_tbl[630]? = some (.code (mm_yn 2) (mm_cn 2) 4 (mm_rf 1)) := rfl
set_option maxRecDepth 20000 in
theorem mw_3 : lw_tbl[634]? = some (.code (mm_yn 3) (mm_cn 3) 10 (mm_rf 0)) := rfl
set_option maxRecDepth 20000 in
theorem mw_4 : lw_tbl[640]? = some (.code (mm_yn 4) (mm_cn 4) 6 (mm_rf 0)) := rfl
set_option maxRecDepth 20000 in
theorem mw_5 : lw_tbl[599]? = some (.code (mm_yn 5) (mm_cn 5) 3 (mm_rf 0)) := rfl
set_option maxRecDepth 20000 in
theorem mw_6 : lw_tbl[603]? = some (.code (mm_yn 6) (mm_cn 6) 8 (mm_rf 0)) := rfl
set_option maxRecDepth 20000 in
theorem mw_7 : lw_tbl[607]? = some (.code (mm_yn 7) (mm_cn 7) 4 (mm_rf 1)) := rfl
set_option maxRecDepth 20000 in
theorem mw_8 : lw_tbl[611]? = some (.code (mm_yn 8) (mm_cn 8) 6 (mm_rf 0)) := rfl
set_option maxRecDepth 20000 in
theorem mw_9 : lw_tbl[509]? = some (.code (mm_yn 9) (mm_cn 9) 2 (mm_rf 0)) := rfl
set_option maxRecDepth 20000 in
theorem mw_10 : lw_tbl[588]? = some (.code (mm_yn 10) (mm_cn 10) 3 (mm_rf 0)) := rfl
set_option maxRecDepth 20000 in
theorem mw_11 : lw_tbl[653]? = some (.code (mm_yn 11) (mm_cn 11) 3 (mm_rf 1)) := rfl
set_option maxRecDepth 20000 in
theorem mw_12 : lw_tbl[402]? = some (.code (mm_yn 12) (mm_cn 12) 3 (mm_rf 0)) := rfl
set_option maxRecDepth 20000 in
theorem mw_13 : lw_tbl[406]? = some (.code (mm_yn 13) (mm_cn 13) 3 (mm_rf 0)) := rfl
set_option maxRecDepth 20000 in
theorem mw_14 : lw_tbl[412]? = some (.code (mm_yn 14) (mm_cn 14) 4 (mm_rf 0)) := rfl
set_option maxRecDepth 20000 in
theorem mw_15 : lw_tbl[422]? = some (.code (mm_yn 15) (mm_cn 15) 6 (mm_rf 0)) := rfl
set_option maxRecDepth 20000 in
theorem mw_16 : lw_tbl[426]? = some (.code (mm_yn 16) (mm_cn 16) 1 (mm_rf 1)) := rfl
set_option maxRecDepth 20000 in
theorem mw_17 : lw_tbl[430]? = some (.code (mm_yn 17) (mm_cn 17) 5 (mm_rf 1)) := rfl
set_option maxRecDepth 20000 in
theorem mw_18 : lw_tbl[434]? = some (.code (mm_yn 18) (mm_cn 18) 3 (mm_rf 1)) := rfl
set_option maxRecDepth 20000 in
theorem mw_19 : lw_tbl[438]? = some (.code (mm_yn 19) (mm_cn 19) 3 (mm_rf 1)) := rfl
set_option maxRecDepth 20000 in
theorem mw_20 : lw_tbl[442]? = some (.code (mm_yn 20) (mm_cn 20) 8 (mm_rf 1)) := rfl
set_option maxRecDepth 20000 in
theorem mw_21 : lw_tbl[331]? = some (.code (mm_yn 21) (mm_cn 21) 4 (mm_rf 0)) := rfl
set_option maxRecDepth 20000 in
theorem mw_22 : lw_tbl[353]? = some (.code (mm_yn 22) (mm_cn 22) 5 (mm_rf 0)) := rfl
set_option maxRecDepth 20000 in
theorem mw_23 : lw_tbl[357]? = some (.code (mm_yn 23) (mm_cn 23) 3 (mm_rf 2)) := rfl
set_option maxRecDepth 20000 in
theorem mw_24 : lw_tbl[361]? = some (.code (mm_yn 24) (mm_cn 24) 3 (mm_rf 0)) := rfl
set_option maxRecDepth 20000 in
theorem mw_25 : lw_tbl[398]? = some (.code (mm_yn 25) (mm_cn 25) 3 (mm_rf 0)) := rfl
set_option maxRecDepth 20000 in
theorem mw_26 : lw_tbl[365]? = some (.code (mm_yn 26) (mm_cn 26) 6 (mm_rf 1)) := rfl
set_option maxRecDepth 20000 in
theorem mw_27 : lw_tbl[369]? = some (.code (mm_yn 27) (mm_cn 27) 5 (mm_rf 1)) := rfl
set_option maxRecDepth 20000 in
theorem mw_28 : lw_tbl[373]? = some (.code (mm_yn 28) (mm_cn 28) 3 (mm_rf 1)) := rfl
set_option maxRecDepth 20000 in
theorem mw_29 : lw_tbl[381]? = some (.code (mm_yn 29) (mm_cn 29) 3 (mm_rf 1)) := rfl
set_option maxRecDepth 20000 in
theorem mw_30 : lw_tbl[377]? = some (.code (mm_yn 30) (mm_cn 30) 2 (mm_rf 1)) := rfl
set_option maxRecDepth 20000 in
theorem mw_31 : lw_tbl[385]? = some (.code (mm_yn 31) (mm_cn 31) 4 (mm_rf 1)) := rfl
set_option maxRecDepth 20000 in
theorem mw_32 : lw_tbl[390]? = some (.code (mm_yn 32) (mm_cn 32) 5 (mm_rf 1)) := rfl
set_option maxRecDepth 20000 in
theorem mw_33 : lw_tbl[394]? = some (.code (mm_yn 33) (mm_cn 33) 3 (mm_rf 1)) := rfl
set_option maxRecDepth 20000 in
theorem mw_34 : lw_tbl[513]? = some (.code (mm_yn 34) (mm_cn 34) 2 (mm_rf 0)) := rfl
set_option maxRecDepth 20000 in
theorem mw_35 : lw_tbl[576]? = some (.code (mm_yn 35) (mm_cn 35) 1 (mm_rf 1)) := rfl
set_option maxRecDepth 20000 in
theorem mw_36 : lw_tbl[458]? = some (.code (mm_yn 36) (mm_cn 36) 3 (mm_rf 1)) := rfl
set_option maxRecDepth 20000 in
theorem mw_37 : lw_tbl[503]? = some (.code (mm_yn 37) (mm_cn 37) 3 (mm_rf 2)) := rfl
set_option maxRecDepth 20000 in
theorem mw_38 : lw_tbl[521]? = some (.code (mm_yn 38) (mm_cn 38) 2 (mm_rf 1)) := rfl
set_option maxRecDepth 20000 in
theorem mw_39 : lw_tbl[527]? = some (.code (mm_yn 39) (mm_cn 39) 3 (mm_rf 0)) := rfl
set_option maxRecDepth 20000 in
theorem mw_40 : lw_tbl[675]? = some (.code (mm_yn 40) (mm_cn 40) 2 (mm_rf 0)) := rfl
set_option maxRecDepth 20000 in
theorem mw_41 : lw_tbl[539]? = some (.code (mm_yn 41) (mm_cn 41) 3 (mm_rf 0)) := rfl
set_option maxRecDepth 20000 in
theorem mw_42 : lw_tbl[547]? = some (.code (mm_yn 42) (mm_cn 42) 3 (mm_rf 0)) := rfl
set_option maxRecDepth 20000 in
theorem mw_43 : lw_tbl[580]? = some (.code (mm_yn 43) (mm_cn 43) 1 (mm_rf 0)) := rfl
set_option maxRecDepth 20000 in
theorem mw_44 : lw_tbl[484]? = some (.code (mm_yn 44) (mm_cn 44) 4 (mm_rf 1)) := rfl
set_option maxRecDepth 20000 in
theorem mw_45 : lw_tbl[476]? = some (.code (mm_yn 45) (mm_cn 45) 4 (mm_rf 1)) := rfl
set_option maxRecDepth 20000 in
theorem mw_46 : lw_tbl[466]? = some (.code (mm_yn 46) (mm_cn 46) 4 (mm_rf 1)) := rfl
set_option maxRecDepth 20000 in
theorem mw_47 : lw_tbl[338]? = some (.code (mm_yn 47) (mm_cn 47) 3 (mm_rf 1)) := rfl
set_option maxRecDepth 20000 in
theorem mw_48 : lw_tbl[349]? = some (.code (mm_yn 48) (mm_cn 48) 3 (mm_rf 1)) := rfl
set_option maxRecDepth 20000 in
theorem mw_49 : lw_tbl[323]? = some (.code (mm_yn 49) (mm_cn 49) 2 (mm_rf 1)) := rfl
set_option maxRecDepth 20000 in
theorem mw_50 : lw_tbl[448]? = some (.code (mm_yn 50) (mm_cn 50) 3 (mm_rf 1)) := rfl
set_option maxRecDepth 20000 in
theorem mw_51 : lw_tbl[462]? = some (.code (mm_yn 51) (mm_cn 51) 3 (mm_rf 1)) := rfl
set_option maxRecDepth 20000 in
theorem mw_52 : lw_tbl[472]? = some (.code (mm_yn 52) (mm_cn 52) 3 (mm_rf 1)) := rfl
set_option maxRecDepth 20000 in
theorem mw_53 : lw_tbl[480]? = some (.code (mm_yn 53) (mm_cn 53) 3 (mm_rf 1)) := rfl
set_option maxRecDepth 20000 in
theorem mw_54 : lw_tbl[488]? = some (.code (mm_yn 54) (mm_cn 54) 3 (mm_rf 1)) := rfl
set_option maxRecDepth 20000 in
theorem mw_55 : lw_tbl[495]? = some (.code (mm_yn 55) (mm_cn 55) 3 (mm_rf 1)) := rfl
set_option maxRecDepth 20000 in
theorem mw_56 : lw_tbl[531]? = some (.code (mm_yn 56) (mm_cn 56) 2 (mm_rf 1)) := rfl
set_option maxRecDepth 20000 in
theorem mw_57 : lw_tbl[535]? = some (.code (mm_yn 57) (mm_cn 57) 3 (mm_rf 1)) := rfl
set_option maxRecDepth 20000 in
theorem mw_58 : lw_tbl[543]? = some (.code (mm_yn 58) (mm_cn 58) 3 (mm_rf 1)) := rfl
set_option maxRecDepth 20000 in
theorem mw_59 : lw_tbl[551]? = some (.code (mm_yn 59) (mm_cn 59) 4 (mm_rf 1)) := rfl
set_option maxRecDepth 20000 in
theorem mw_60 : lw_tbl[555]? = some (.code (mm_yn 60) (mm_cn 60) 3 (mm_rf 1)) := rfl
set_option maxRecDepth 20000 in
theorem mw_61 : lw_tbl[560]? = some (.code (mm_yn 61) (mm_cn 61) 6 (mm_rf 1)) := rfl
set_option maxRecDepth 20000 in
theorem mw_62 : lw_tbl[572]? = some (.code (mm_yn 62) (mm_cn 62) 2 (mm_rf 1)) := rfl
set_option maxRecDepth 20000 in
theorem mw_63 : lw_tbl[584]? = some (.code (mm_yn 63) (mm_cn 63) 2 (mm_rf 1)) := rfl
set_option maxRecDepth 20000 in
theorem mw_64 : lw_tbl[595]? = some (.code (mm_yn 64) (mm_cn 64) 2 (mm_rf 1)) := rfl
set_option maxRecDepth 20000 in
theorem mw_65 : lw_tbl[615]? = some (.code (mm_yn 65) (mm_cn 65) 2 (mm_rf 1)) := rfl
set_option maxRecDepth 20000 in
theorem mw_66 : lw_tbl[644]? = some (.code (mm_yn 66) (mm_cn 66) 2 (mm_rf 1)) := rfl
set_option maxRecDepth 20000 in
theorem mw_67 : lw_tbl[649]? = some (.code (mm_yn 67) (mm_cn 67) 4 (mm_rf 1)) := rfl
set_option maxRecDepth 20000 in
theorem mw_68 : lw_tbl[658]? = some (.code (mm_yn 68) (mm_cn 68) 2 (mm_rf 1)) := rfl
set_option maxRecDepth 20000 in
theorem mw_69 : lw_tbl[662]? = some (.code (mm_yn 69) (mm_cn 69) 3 (mm_rf 1)) := rfl
set_option maxRecDepth 20000 in
theorem mw_70 : lw_tbl[666]? = some (.code (mm_yn 70) (mm_cn 70) 2 (mm_rf 1)) := rfl
set_option maxRecDepth 20000 in
theorem mw_71 : lw_tbl[671]? = some (.code (mm_yn 71) (mm_cn 71) 2 (mm_rf 1)) := rfl
set_option maxRecDepth 20000 in
theorem mw_72 : lw_tbl[327]? = some (.code (mm_yn 72) (mm_cn 72) 1 (mm_rf 1)) := rfl
set_option maxRecDepth 20000 in
theorem mw_73 : lw_tbl[499]? = some (.code (mm_yn 73) (mm_cn 73) 2 (mm_rf 1)) := rfl
set_option maxRecDepth 20000 in
theorem mw_74 : lw_tbl[564]? = some (.code (mm_yn 74) (mm_cn 74) 2 (mm_rf 1)) := rfl
set_option maxRecDepth 20000 in
theorem mw_75 : lw_tbl[344]? = some (.code (mm_yn 75) (mm_cn 75) 2 (mm_rf 2)) := rfl
set_option maxRecDepth 20000 in
theorem mw_76 : lw_tbl[491]? = some (.code (mm_yn 76) (mm_cn 76) 2 (mm_rf 1)) := rfl
set_option maxRecDepth 20000 in
theorem mw_77 : lw_tbl[341]? = some (.code (mm_yn 77) (mm_cn 77) 1 (mm_rf 1)) := rfl
set_option maxRecDepth 20000 in
theorem mw_78 : lw_tbl[334]? = some (.code (mm_yn 78) (mm_cn 78) 1 (mm_rf 1)) := rfl
set_option maxRecDepth 20000 in
theorem mw_79 : lw_tbl[760]? = some (.code (mm_yn 79) (mm_cn 79) 6 (mm_rf 2)) := rfl
set_option maxRecDepth 20000 in
theorem mw_80 : lw_tbl[872]? = some (.code (mm_yn 80) (mm_cn 80) 4 (mm_rf 0)) := rfl
set_option maxRecDepth 20000 in
theorem mw_81 : lw_tbl[841]? = some (.code (mm_yn 81) (mm_cn 81) 1 (mm_rf 2)) := rfl
set_option maxRecDepth 20000 in
theorem mw_82 : lw_tbl[775]? = some (.code (mm_yn 82) (mm_cn 82) 1 (mm_rf 2)) := rfl
set_option maxRecDepth 20000 in
theorem mw_83 : lw_tbl[805]? = some (.code (mm_yn 83) (mm_cn 83) 2 (mm_rf 2)) := rfl
set_option maxRecDepth 20000 in
theorem mw_84 : lw_tbl[822]? = some (.code (mm_yn 84) (mm_cn 84) 2 (mm_rf 2)) := rfl
set_option maxRecDepth 20000 in
theorem mw_85 : lw_tbl[753]? = some (.code (mm_yn 85) (mm_cn 85) 2 (mm_rf 1)) := rfl
set_option maxRecDepth 20000 in
theorem mw_86 : lw_tbl[757]? = some (.code (mm_yn 86) (mm_cn 86) 2 (mm_rf 1)) := rfl
set_option maxRecDepth 20000 in
theorem mw_87 : lw_tbl[834]? = some (.code (mm_yn 87) (mm_cn 87) 3 (mm_rf 2)) := rfl
set_option maxRecDepth 20000 in
theorem mw_88 : lw_tbl[749]? = some (.code (mm_yn 88) (mm_cn 88) 6 (mm_rf 1)) := rfl
set_option maxRecDepth 20000 in
theorem mw_89 : lw_tbl[745]? = some (.code (mm_yn 89) (mm_cn 89) 11 (mm_rf 1)) := rfl
set_option maxRecDepth 20000 in
theorem mw_90 : lw_tbl[741]? = some (.code (mm_yn 90) (mm_cn 90) 1 (mm_rf 1)) := rfl
set_option maxRecDepth 20000 in
theorem mw_91 : lw_tbl[764]? = some (.code (mm_yn 91) (mm_cn 91) 6 (mm_rf 1)) := rfl
set_option maxRecDepth 20000 in
theorem mw_92 : lw_tbl[768]? = some (.code (mm_yn 92) (mm_cn 92) 4 (mm_rf 1)) := rfl
set_option maxRecDepth 20000 in
theorem mw_93 : lw_tbl[772]? = some (.code (mm_yn 93) (mm_cn 93) 6 (mm_rf 1)) := rfl
set_option maxRecDepth 20000 in
theorem mw_94 : lw_tbl[788]? = some (.code (mm_yn 94) (mm_cn 94) 5 (mm_rf 2)) := rfl
set_option maxRecDepth 20000 in
theorem mw_95 : lw_tbl[784]? = some (.code (mm_yn 95) (mm_cn 95) 3 (mm_rf 0)) := rfl
set_option maxRecDepth 20000 in
theorem mw_96 : lw_tbl[796]? = some (.code (mm_yn 96) (mm_cn 96) 4 (mm_rf 1)) := rfl
set_option maxRecDepth 20000 in
theorem mw_97 : lw_tbl[792]? = some (.code (mm_yn 97) (mm_cn 97) 6 (mm_rf 1)) := rfl
set_option maxRecDepth 20000 in
theorem mw_98 : lw_tbl[780]? = some (.code (mm_yn 98) (mm_cn 98) 2 (mm_rf 1)) := rfl
set_option maxRecDepth 20000 in
theorem mw_99 : lw_tbl[737]? = some (.code (mm_yn 99) (mm_cn 99) 2 (mm_rf 1)) := rfl
set_option maxRecDepth 20000 in
theorem mw_100 : lw_tbl[813]? = some (.code (mm_yn 100) (mm_cn 100) 4 (mm_rf 1)) := rfl
set_option maxRecDepth 20000 in
theorem mw_101 : lw_tbl[809]? = some (.code (mm_yn 101) (mm_cn 101) 4 (mm_rf 1)) := rfl
set_option maxRecDepth 20000 in
theorem mw_102 : lw_tbl[801]? = some (.code (mm_yn 102) (mm_cn 102) 3 (mm_rf 1)) := rfl
set_option maxRecDepth 20000 in
theorem mw_103 : lw_tbl[830]? = some (.code (mm_yn 103) (mm_cn 103) 4 (mm_rf 1)) := rfl
set_option maxRecDepth 20000 in
theorem mw_104 : lw_tbl[826]? = some (.code (mm_yn 104) (mm_cn 104) 4 (mm_rf 1)) := rfl
set_option maxRecDepth 20000 in
theorem mw_105 : lw_tbl[818]? = some (.code (mm_yn 105) (mm_cn 105) 3 (mm_rf 1)) := rfl
set_option maxRecDepth 20000 in
theorem mw_106 : lw_tbl[846]? = some (.code (mm_yn 106) (mm_cn 106) 4 (mm_rf 1)) := rfl
set_option maxRecDepth 20000 in
theorem mw_107 : lw_tbl[838]? = some (.code (mm_yn 107) (mm_cn 107) 3 (mm_rf 1)) := rfl
set_option maxRecDepth 20000 in
theorem mw_108 : lw_tbl[850]? = some (.code (mm_yn 108) (mm_cn 108) 3 (mm_rf 1)) := rfl
set_option maxRecDepth 20000 in
theorem mw_109 : lw_tbl[854]? = some (.code (mm_yn 109) (mm_cn 109) 3 (mm_rf 1)) := rfl
set_option maxRecDepth 20000 in
theorem mw_110 : lw_tbl[868]? = some (.code (mm_yn 110) (mm_cn 110) 2 (mm_rf 0)) := rfl
set_option maxRecDepth 20000 in
theorem mw_111 : lw_tbl[863]? = some (.code (mm_yn 111) (mm_cn 111) 3 (mm_rf 2)) := rfl
set_option maxRecDepth 20000 in
theorem mw_112 : lw_tbl[880]? = some (.code (mm_yn 112) (mm_cn 112) 4 (mm_rf 0)) := rfl
set_option maxRecDepth 20000 in
theorem mw_113 : lw_tbl[876]? = some (.code (mm_yn 113) (mm_cn 113) 3 (mm_rf 0)) := rfl
set_option maxRecDepth 20000 in
theorem mw_114 : lw_tbl[859]? = some (.code (mm_yn 114) (mm_cn 114) 3 (mm_rf 1)) := rfl
set_option maxRecDepth 20000 in
theorem mw_115 : lw_tbl[884]? = some (.code (mm_yn 115) (mm_cn 115) 2 (mm_rf 1)) := rfl
set_option maxRecDepth 20000 in
theorem mw_116 : lw_tbl[892]? = some (.code (mm_yn 116) (mm_cn 116) 3 (mm_rf 0)) := rfl
set_option maxRecDepth 20000 in
theorem mw_117 : lw_tbl[900]? = some (.code (mm_yn 117) (mm_cn 117) 3 (mm_rf 0)) := rfl
set_option maxRecDepth 20000 in
theorem mw_118 : lw_tbl[888]? = some (.code (mm_yn 118) (mm_cn 118) 3 (mm_rf 1)) := rfl
set_option maxRecDepth 20000 in
theorem mw_119 : lw_tbl[896]? = some (.code (mm_yn 119) (mm_cn 119) 3 (mm_rf 1)) := rfl
set_option maxRecDepth 20000 in
theorem mw_120 : lw_tbl[904]? = some (.code (mm_yn 120) (mm_cn 120) 4 (mm_rf 1)) := rfl
set_option maxRecDepth 20000 in
theorem mw_121 : lw_tbl[909]? = some (.code (mm_yn 121) (mm_cn 121) 3 (mm_rf 1)) := rfl
set_option maxRecDepth 20000 in
theorem mw_122 : lw_tbl[919]? = some (.code (mm_yn 122) (mm_cn 122) 2 (mm_rf 1)) := rfl
set_option maxRecDepth 20000 in
theorem mw_123 : lw_tbl[914]? = some (.code (mm_yn 123) (mm_cn 123) 6 (mm_rf 1)) := rfl
set_option maxRecDepth 20000 in
theorem mw_124 : lw_tbl[927]? = some (.code (mm_yn 124) (mm_cn 124) 2 (mm_rf 1)) := rfl
set_option maxRecDepth 20000 in
theorem mw_125 : lw_tbl[931]? = some (.code (mm_yn 125) (mm_cn 125) 2 (mm_rf 1)) := rfl
set_option maxRecDepth 20000 in
theorem mw_126 : lw_tbl[940]? = some (.code (mm_yn 126) (mm_cn 126) 5 (mm_rf 1)) := rfl
set_option maxRecDepth 20000 in
theorem mw_127 : lw_tbl[944]? = some (.code (mm_yn 127) (mm_cn 127) 5 (mm_rf 1)) := rfl
set_option maxRecDepth 20000 in
theorem mw_128 : lw_tbl[936]? = some (.code (mm_yn 128) (mm_cn 128) 11 (mm_rf 1)) := rfl
set_option maxRecDepth 20000 in
theorem mw_129 : lw_tbl[961]? = some (.code (mm_yn 129) (mm_cn 129) 2 (mm_rf 1)) := rfl
set_option maxRecDepth 20000 in
theorem mw_130 : lw_tbl[957]? = some (.code (mm_yn 130) (mm_cn 130) 3 (mm_rf 2)) := rfl
set_option maxRecDepth 20000 in
theorem mw_131 : lw_tbl[953]? = some (.code (mm_yn 131) (mm_cn 131) 5 (mm_rf 1)) := rfl
set_option maxRecDepth 20000 in
theorem mw_132 : lw_tbl[965]? = some (.code (mm_yn 132) (mm_cn 132) 8 (mm_rf 2)) := rfl
set_option maxRecDepth 20000 in
theorem mw_133 : lw_tbl[948]? = some (.code (mm_yn 133) (mm_cn 133) 11 (mm_rf 1)) := rfl
set_option maxRecDepth 20000 in
theorem mw_134 : lw_tbl[969]? = some (.code (mm_yn 134) (mm_cn 134) 2 (mm_rf 1)) := rfl
set_option maxRecDepth 20000 in
theorem mw_135 : lw_tbl[973]? = some (.code (mm_yn 135) (mm_cn 135) 4 (mm_rf 1)) := rfl
set_option maxRecDepth 20000 in
theorem mw_136 : lw_tbl[977]? = some (.code (mm_yn 136) (mm_cn 136) 2 (mm_rf 1)) := rfl
set_option maxRecDepth 20000 in
theorem mw_137 : lw_tbl[981]? = some (.code (mm_yn 137) (mm_cn 137) 3 (mm_rf 1)) := rfl
set_option maxRecDepth 20000 in
theorem mw_138 : lw_tbl[985]? = some (.code (mm_yn 138) (mm_cn 138) 2 (mm_rf 1)) := rfl
set_option maxRecDepth 20000 in
theorem mw_139 : lw_tbl[989]? = some (.code (mm_yn 139) (mm_cn 139) 3 (mm_rf 1)) := rfl
set_option maxRecDepth 20000 in
theorem mw_140 : lw_tbl[591]? = some (.code (mm_yn 140) (mm_cn 140) 3 (mm_rf 1)) := rfl
set_option maxRecDepth 20000 in
theorem mw_141 : lw_tbl[415]? = some (.code (mm_yn 141) (mm_cn 141) 2 (mm_rf 1)) := rfl
set_option maxRecDepth 20000 in
theorem mw_142 : lw_tbl[418]? = some (.code (mm_yn 142) (mm_cn 142) 2 (mm_rf 1)) := rfl
theorem mm_cw : ∀ id, id < 143 → Cond.code (mm_yn id) (mm_cn id) (mm_qn id).1 (mm_rf (mm_qn id).2.1) ∈ mm_gt := by
  intro id hid
  match id, hid with
  | 0, _ => exact mm_gw mw_0 rfl
  | 1, _ => exact mm_gw mw_1 rfl
  | 2, _ => exact mm_gw mw_2 rfl
  | 3, _ => exact mm_gw mw_3 rfl
  | 4, _ => exact mm_gw mw_4 rfl
  | 5, _ => exact mm_gw mw_5 rfl
  | 6, _ => exact mm_gw mw_6 rfl
  | 7, _ => exact mm_gw mw_7 rfl
  | 8, _ => exact mm_gw mw_8 rfl
  | 9, _ => exact mm_gw mw_9 rfl
  | 10, _ => exact mm_gw mw_10 rfl
  | 11, _ => exact mm_gw mw_11 rfl
  | 12, _ => exact mm_gw mw_12 rfl
  | 13, _ => exact mm_gw mw_13 rfl
  | 14, _ => exact mm_gw mw_14 rfl
  | 15, _ => exact mm_gw mw_15 rfl
  | 16, _ => exact mm_gw mw_16 rfl
  | 17, _ => exact mm_gw mw_17 rfl
  | 18, _ => exact mm_gw mw_18 rfl
  | 19, _ => exact mm_gw mw_19 rfl
  | 20, _ => exact mm_gw mw_20 rfl
  | 21, _ => exact mm_gw mw_21 rfl
  | 22, _ => exact mm_gw mw_22 rfl
  | 23, _ => exact mm_gw mw_23 rfl
  | 24, _ => exact mm_gw mw_24 rfl
  | 25, _ => exact mm_gw mw_25 rfl
  | 26, _ => exact mm_gw mw_26 rfl
  | 27, _ => exact mm_gw mw_27 rfl
  | 28, _ => exact mm_gw mw_28 rfl
  | 29, _ => exact mm_gw mw_29 rfl
  | 30, _ => exact mm_gw mw_30 rfl
  | 31, _ => exact mm_gw mw_31 rfl
  | 32, _ => exact mm_gw mw_32 rfl
  | 33, _ => exact mm_gw mw_33 rfl
  | 34, _ => exact mm_gw mw_34 rfl
  | 35, _ => exact mm_gw mw_35 rfl
  | 36, _ => exact mm_gw mw_36 rfl
  | 37, _ => exact mm_gw mw_37 rfl
  | 38, _ => exact mm_gw mw_38 rfl
  | 39, _ => exact mm_gw mw_39 rfl
  | 40, _ => exact mm_gw mw_40 rfl
  | 41, _ => exact mm_gw mw_41 rfl
  | 42, _ => exact mm_gw mw_42 rfl
  | 43, _ => exact mm_gw mw_43 rfl
  | 44, _ => exact mm_gw mw_44 rfl
  | 45, _ => exact mm_gw mw_45 rfl
  | 46, _ => exact mm_gw mw_46 rfl
  | 47, _ => exact mm_gw mw_47 rfl
  | 48, _ => exact mm_gw mw_48 rfl
  | 49, _ => exact mm_gw mw_49 rfl
  | 50, _ => exact mm_gw mw_50 rfl
  | 51, _ => exact mm_gw mw_51 rfl
  | 52, _ => exact mm_gw mw_52 rfl
  | 53, _ => exact mm_gw mw_53 rfl
  | 54, _ => exact mm_gw mw_54 rfl
  | 55, _ => exact mm_gw mw_55 rfl
  | 56, _ => exact mm_gw mw_56 rfl
  | 57, _ => exact mm_gw mw_57 rfl
  | 58, _ => exact mm_gw mw_58 rfl
  | 59, _ => exact mm_gw mw_59 rfl
  | 60, _ => exact mm_gw mw_60 rfl
  | 61, _ => exact mm_gw mw_61 rfl
  | 62, _ => exact mm_gw mw_62 rfl
  | 63, _ => exact mm_gw mw_63 rfl
  | 64, _ => exact mm_gw mw_64 rfl
  | 65, _ => exact mm_gw mw_65 rfl
  | 66, _ => exact mm_gw mw_66 rfl
  | 67, _ => exact mm_gw mw_67 rfl
  | 68, _ => exact mm_gw mw_68 rfl
  | 69, _ => exact mm_gw mw_69 rfl
  | 70, _ => exact mm_gw mw_70 rfl
  | 71, _ => exact mm_gw mw_71 rfl
  | 72, _ => exact mm_gw mw_72 rfl
  | 73, _ => exact mm_gw mw_73 rfl
  | 74, _ => exact mm_gw mw_74 rfl
  | 75, _ => exact mm_gw mw_75 rfl
  | 76, _ => exact mm_gw mw_76 rfl
  | 77, _ => exact mm_gw mw_77 rfl
  | 78, _ => exact mm_gw mw_78 rfl
  | 79, _ => exact mm_gw mw_79 rfl
  | 80, _ => exact mm_gw mw_80 rfl
  | 81, _ => exact mm_gw mw_81 rfl
  | 82, _ => exact mm_gw mw_82 rfl
  | 83, _ => exact mm_gw mw_83 rfl
  | 84, _ => exact mm_gw mw_84 rfl
  | 85, _ => exact mm_gw mw_85 rfl
  | 86, _ => exact mm_gw mw_86 rfl
  | 87, _ => exact mm_gw mw_87 rfl
  | 88, _ => exact mm_gw mw_88 rfl
  | 89, _ => exact mm_gw mw_89 rfl
  | 90, _ => exact mm_gw mw_90 rfl
  | 91, _ => exact mm_gw mw_91 rfl
  | 92, _ => exact mm_gw mw_92 rfl
  | 93, _ => exact mm_gw mw_93 rfl
  | 94, _ => exact mm_gw mw_94 rfl
  | 95, _ => exact mm_gw mw_95 rfl
  | 96, _ => exact mm_gw mw_96 rfl
  | 97, _ => exact mm_gw mw_97 rfl
  | 98, _ => exact mm_gw mw_98 rfl
  | 99, _ => exact mm_gw mw_99 rfl
  | 100, _ => exact mm_gw mw_100 rfl
  | 101, _ => exact mm_gw mw_101 rfl
  | 102, _ => exact mm_gw mw_102 rfl
  | 103, _ => exact mm_gw mw_103 rfl
  | 104, _ => exact mm_gw mw_104 rfl
  | 105, _ => exact mm_gw mw_105 rfl
  | 106, _ => exact mm_gw mw_106 rfl
  | 107, _ => exact mm_gw mw_107 rfl
  | 108, _ => exact mm_gw mw_108 rfl
  | 109, _ => exact mm_gw mw_109 rfl
  | 110, _ => exact mm_gw mw_110 rfl
  | 111, _ => exact mm_gw mw_111 rfl
  | 112, _ => exact mm_gw mw_112 rfl
  | 113, _ => exact mm_gw mw_113 rfl
  | 114, _ => exact mm_gw mw_114 rfl
  | 115, _ => exact mm_gw mw_115 rfl
  | 116, _ => exact mm_gw mw_116 rfl
  | 117, _ => exact mm_gw mw_117 rfl
  | 118, _ => exact mm_gw mw_118 rfl
  | 119, _ => exact mm_gw mw_119 rfl
  | 120, _ => exact mm_gw mw_120 rfl
  | 121, _ => exact mm_gw mw_121 rfl
  | 122, _ => exact mm_gw mw_122 rfl
  | 123, _ => exact mm_gw mw_123 rfl
  | 124, _ => exact mm_gw mw_124 rfl
  | 125, _ => exact mm_gw mw_125 rfl
  | 126, _ => exact mm_gw mw_126 rfl
  | 127, _ => exact mm_gw mw_127 rfl
  | 128, _ => exact mm_gw mw_128 rfl
  | 129, _ => exact mm_gw mw_129 rfl
  | 130, _ => exact mm_gw mw_130 rfl
  | 131, _ => exact mm_gw mw_131 rfl
  | 132, _ => exact mm_gw mw_132 rfl
  | 133, _ => exact mm_gw mw_133 rfl
  | 134, _ => exact mm_gw mw_134 rfl
  | 135, _ => exact mm_gw mw_135 rfl
  | 136, _ => exact mm_gw mw_136 rfl
  | 137, _ => exact mm_gw mw_137 rfl
  | 138, _ => exact mm_gw mw_138 rfl
  | 139, _ => exact mm_gw mw_139 rfl
  | 140, _ => exact mm_gw mw_140 rfl
  | 141, _ => exact mm_gw mw_141 rfl
  | 142, _ => exact mm_gw mw_142 rfl
  | k + 143, h => exact absurd h (by omega)
theorem mm_sysini : Cond.initialized "java/lang/System" ∈ mm_gt := mm_w1_in (i := 66) (by decide +kernel)
end
section
abbrev mI : Type := Jvm.ClassFile.Instr
def mm_gf (o idx pc : Nat) (ls st : List mV) (μ : mM) : mS := match st with
  | .inr (.inl (k, i)) :: st => match mm_ft o idx with
    | some (ci, f, _) => if k = ci then match (mm_fs ci)[f]? with
      | some (t, k', off) => if t = 2 then mm_nx pc ls (.inr (.inl (k', i + off)) :: st) μ else mm_nx pc ls (.inl (μ ci i f) :: st) μ
      | none => none
      else none
    | none => none
  | _ => none
def mm_pf (o idx pc : Nat) (ls st : List mV) (μ : mM) : mS := match st with
  | .inl v :: .inr (.inl (k, i)) :: st => match mm_ft o idx with
    | some (ci, f, _) => if k = ci then match (mm_fs ci)[f]? with
      | some (t, _, _) => if t = 0 ∨ (t = 1 ∧ (v = 0 ∨ v = 1)) then mm_nx pc ls st (mm_up μ ci i f v) else none
      | none => none
      else none
    | none => none
  | _ => none
def mm_al (tg pc : Nat) (ls st : List mV) (μ : mM) : mS := match st with
  | .inl j :: .inr (.inl (k, i)) :: st => match mm_as k with
    | some (t, n, _, _) => if t = tg then if j < 0 ∨ n ≤ j.toNatClampNeg then none else mm_nx pc ls (.inl (μ k i j.toNatClampNeg) :: st) μ else none
    | none => none
  | _ => none
def mm_sl (tg pc : Nat) (ls st : List mV) (μ : mM) : mS := match st with
  | .inl v :: .inl j :: .inr (.inl (k, i)) :: st => match mm_as k with
    | some (t, n, _, _) => if t = tg then if j < 0 ∨ n ≤ j.toNatClampNeg then none else mm_nx pc ls st (mm_up μ k i j.toNatClampNeg (if tg = 0 then v else vp_nar .boolean v)) else none
    | none => none
  | _ => none
def mm_aa (pc : Nat) (ls st : List mV) (μ : mM) : mS := match st with
  | .inl j :: .inr (.inl (k, _)) :: st => match mm_as k with
    | some (t, n, k', off) => if t = 2 then if j < 0 ∨ n ≤ j.toNatClampNeg then none else mm_nx pc ls (.inr (.inl (k', j.toNatClampNeg + off)) :: st) μ else none
    | none => none
  | _ => none
def mm_cv (E : mE) (o idx pc : Nat) (ls st : List mV) (μ : mM) : mS := match mm_mt o idx with
  | some (0, id, cl, _) => match st.drop (mm_qn id).2.2.2.1 with
    | .inr (.inl (k, i)) :: rest => if k = cl ∧ mm_ct rest ≤ 8 then match E id (.inr (.inl (k, i)) :: (st.take (mm_qn id).2.2.2.1).reverse) μ with
      | some (r, μ') => mm_nx pc ls (if (mm_qn id).2.1 = 0 then rest else .inl r :: rest) μ'
      | none => none
      else none
    | _ => none
  | _ => none
def mm_ac (pc : Nat) (ls st : List mV) (μ : mM) : mS := match st with
  | .inl n :: .inl dp :: .inr (.inl (k1, i1)) :: .inl sp :: .inr (.inl (k0, i0)) :: st => match mm_as k0, mm_as k1 with
    | some (t0, n0, _, _), some (t1, n1, _, _) => if t0 = 0 ∧ t1 = 0 then
        if n < 0 ∨ sp < 0 ∨ dp < 0 ∨ n0 < sp.toNatClampNeg + n.toNatClampNeg ∨ n1 < dp.toNatClampNeg + n.toNatClampNeg ∨ 8 < mm_ct st then none
        else mm_nx pc ls st (mm_row μ k1 i1 (va_cpy (μ k0 i0) (μ k1 i1) sp.toNatClampNeg dp.toNatClampNeg n.toNatClampNeg))
      else none
    | _, _ => none
  | _ => none
def mm_cs (E : mE) (o idx pc : Nat) (ls st : List mV) (μ : mM) : mS := match mm_mt o idx with
  | some (t, id, _) => if t = 3 then mm_ac pc ls st μ else if t = 1 ∨ t = 2 then
      if (mm_qn id).2.2.2.1 ≤ st.length ∧ mm_ct (st.drop (mm_qn id).2.2.2.1) ≤ 8 then match E id (st.take (mm_qn id).2.2.2.1).reverse μ with
        | some (r, μ') => mm_nx pc ls (if (mm_qn id).2.1 = 0 then st.drop (mm_qn id).2.2.2.1 else .inl r :: st.drop (mm_qn id).2.2.2.1) μ'
        | none => none
      else none
    else none
  | _ => none
def mm_ir (rt : Nat) (st : List mV) (μ : mM) : mS := match st with
  | [.inl v] => if rt = 1 ∨ ((rt = 2 ∨ rt = 3) ∧ (v = 0 ∨ v = 1)) then some (.inr (v, μ)) else none
  | _ => none
def mm_vr (rt : Nat) (st : List mV) (μ : mM) : mS := match st with
  | [] => if rt = 0 then some (.inr (0, μ)) else none
  | _ => none
def mm_li (o idx pc : Nat) (ls st : List mV) (μ : mM) : mS := match mm_kt o idx with
  | some (v, _) => mm_nx pc ls (.inl v :: st) μ
  | none => none
def mm_ll2 (o idx pc : Nat) (ls st : List mV) (μ : mM) : mS := match mm_lt o idx with
  | some (v, _) => mm_nx pc ls (.inr (.inr v) :: st) μ
  | none => none
def mm_ln (len n : Nat) (x : mS) : mS := if len = n then x else none
/-- one instruction -/
def mm_st (E : mE) (o rt pc : Nat) (ls st : List mV) (μ : mM) (i : mI) (len : Nat) : mS := match i with
  | .iconst n => mm_ln len 1 (mm_ps (pc + 1) ls (.inl (Int32.ofInt n)) st μ)
  | .bipush n => mm_ln len 2 (mm_ps (pc + 2) ls (.inl (Int8.ofInt n).toInt32) st μ)
  | .sipush n => mm_ln len 3 (mm_ps (pc + 3) ls (.inl (Int16.ofInt n).toInt32) st μ)
  | .lconst n => mm_ln len 1 (mm_ps (pc + 1) ls (.inr (.inr (Int64.ofNat (n : Nat)))) st μ)
  | .ldc n => mm_ln len 2 (mm_li o n (pc + 2) ls st μ)
  | .ldc_w n => mm_ln len 3 (mm_li o n (pc + 3) ls st μ)
  | .ldc2_w n => mm_ln len 3 (mm_ll2 o n (pc + 3) ls st μ)
  | .iload_n n => mm_ln len 1 (mm_ild (pc + 1) n ls st μ)
  | .iload n => mm_ln len 2 (mm_ild (pc + 2) n ls st μ)
  | .lload_n n => mm_ln len 1 (mm_lld (pc + 1) n ls st μ)
  | .lload n => mm_ln len 2 (mm_lld (pc + 2) n ls st μ)
  | .aload_n n => mm_ln len 1 (mm_ald (pc + 1) n ls st μ)
  | .istore_n n => mm_ln len 1 (mm_ist rt (pc + 1) n ls st μ)
  | .istore n => mm_ln len 2 (mm_ist rt (pc + 2) n ls st μ)
  | .iinc k n => mm_ln len 3 (mm_inc rt (pc + 3) k n ls st μ)
  | .iadd => mm_ln len 1 (mm_b2 (fun a b => some (a + b)) (pc + 1) ls st μ)
  | .isub => mm_ln len 1 (mm_b2 (fun a b => some (a - b)) (pc + 1) ls st μ)
  | .imul => mm_ln len 1 (mm_b2 (fun a b => some (a * b)) (pc + 1) ls st μ)
  | .ixor => mm_ln len 1 (mm_b2 (fun a b => some (a ^^^ b)) (pc + 1) ls st μ)
  | .idiv => mm_ln len 1 (mm_b2 (fun a b => if b = 0 then none else some (a / b)) (pc + 1) ls st μ)
  | .irem => mm_ln len 1 (mm_b2 (fun a b => if b = 0 then none else some (a - a / b * b)) (pc + 1) ls st μ)
  | .ladd => mm_ln len 1 (mm_l2 (fun a b => some (.inr (.inr (a + b)))) (pc + 1) ls st μ)
  | .lmul => mm_ln len 1 (mm_l2 (fun a b => some (.inr (.inr (a * b)))) (pc + 1) ls st μ)
  | .lrem => mm_ln len 1 (mm_l2 (fun a b => if b = 0 then none else some (.inr (.inr (a - a / b * b)))) (pc + 1) ls st μ)
  | .lcmp => mm_ln len 1 (mm_l2 (fun a b => some (.inl (lg_cmp a b))) (pc + 1) ls st μ)
  | .i2l => mm_ln len 1 (mm_i2l (pc + 1) ls st μ)
  | .l2i => mm_ln len 1 (mm_l2i (pc + 1) ls st μ)
  | .dup => mm_ln len 1 (mm_dup (pc + 1) ls st μ)
  | .pop => mm_ln len 1 (mm_pop (pc + 1) ls st μ)
  | .dup_x1 => mm_ln len 1 (mm_dx1 (pc + 1) ls st μ)
  | .dup2 => mm_ln len 1 (mm_dp2 (pc + 1) ls st μ)
  | .ifCond cd off => mm_ln len 3 (mm_if cd pc off ls st μ)
  | .if_icmp cd off => mm_ln len 3 (mm_ic cd pc off ls st μ)
  | .goto off => mm_ln len 3 (mm_jp pc off ls st μ)
  | .tableswitch d lo hi offs => mm_sw pc d lo hi offs ls st μ
  | .getfield n => mm_ln len 3 (mm_gf o n (pc + 3) ls st μ)
  | .putfield n => mm_ln len 3 (mm_pf o n (pc + 3) ls st μ)
  | .iaload => mm_ln len 1 (mm_al 0 (pc + 1) ls st μ)
  | .baload => mm_ln len 1 (mm_al 1 (pc + 1) ls st μ)
  | .iastore => mm_ln len 1 (mm_sl 0 (pc + 1) ls st μ)
  | .bastore => mm_ln len 1 (mm_sl 1 (pc + 1) ls st μ)
  | .aaload => mm_ln len 1 (mm_aa (pc + 1) ls st μ)
  | .invokevirtual n => mm_ln len 3 (mm_cv E o n (pc + 3) ls st μ)
  | .invokestatic n => mm_ln len 3 (mm_cs E o n (pc + 3) ls st μ)
  | .ireturn => mm_ln len 1 (mm_ir rt st μ)
  | .return_ => mm_ln len 1 (mm_vr rt st μ)
  | _ => none
def mm_sp (E : mE) (o rt : Nat) (cc : ByteArray) (c : mC) : mS := match decode cc c.1 with
  | .ok (i, len) => mm_st E o rt c.1 c.2.1 c.2.2.1 c.2.2.2 i len
  | .error _ => none
def mm_it (E : mE) (o rt : Nat) (cc : ByteArray) : Nat → mC → Option mR
  | 0, _ => none
  | n + 1, c => match mm_sp E o rt cc c with
    | none => none
    | some (.inl c') => mm_it E o rt cc n c'
    | some (.inr r) => some r
theorem mm_it_mono {E : mE} {o rt : Nat} {cc : ByteArray} : ∀ (n : Nat) (c : mC) (r : mR), mm_it E o rt cc n c = some r → mm_it E o rt cc (n + 1) c = some r
  | 0, _, _, h => by simp [mm_it] at h
  | n + 1, c, r, h => by
    rw [mm_it] at h ⊢
    cases hs : mm_sp E o rt cc c with
    | none => rw [hs] at h; exact h
    | some q =>
      rw [hs] at h
      cases q with
      | inl c' => exact mm_it_mono n c' r h
      | inr r' => exact h
theorem mm_it_le {E : mE} {o rt : Nat} {cc : ByteArray} {n m : Nat} {c : mC} {r : mR} (hnm : n ≤ m) (h : mm_it E o rt cc n c = some r) : mm_it E o rt cc m c = some r := by
  induction hnm with
  | refl => exact h
  | step _ ih => exact mm_it_mono _ _ _ ih
/-- what a run comes to: none where it gets stuck or doesn't end -/
noncomputable def mm_run (E : mE) (o rt : Nat) (cc : ByteArray) (c : mC) : Option mR :=
  @dite (Option mR) (∃ r : mR, ∃ n, mm_it E o rt cc n c = some r) (Classical.propDecidable _) (fun h => some (Classical.choose h)) (fun _ => none)
theorem mm_run_it {E : mE} {o rt : Nat} {cc : ByteArray} {c : mC} {r : mR} : mm_run E o rt cc c = some r ↔ ∃ n, mm_it E o rt cc n c = some r := by
  unfold mm_run
  constructor
  · intro h
    split at h
    · rename_i hx
      cases h
      exact Classical.choose_spec hx
    · cases h
  · rintro ⟨n, hn⟩
    have hx : ∃ r : mR, ∃ n, mm_it E o rt cc n c = some r := ⟨r, n, hn⟩
    rw [dif_pos hx]
    obtain ⟨m, hm⟩ := Classical.choose_spec hx
    have h1 := mm_it_le (Nat.le_max_left n m) hn
    have h2 := mm_it_le (Nat.le_max_right n m) hm
    rw [h1] at h2
    exact h2.symm
theorem mm_run_eq {E : mE} {o rt : Nat} {cc : ByteArray} (c : mC) : mm_run E o rt cc c = match mm_sp E o rt cc c with
    | none => none
    | some (.inl c') => mm_run E o rt cc c'
    | some (.inr r) => some r := by
  cases hs : mm_sp E o rt cc c with
  | none =>
    cases h : mm_run E o rt cc c with
    | none => rfl
    | some r =>
      obtain ⟨n, hn⟩ := mm_run_it.mp h
      cases n with
      | zero => simp [mm_it] at hn
      | succ n => rw [mm_it, hs] at hn; exact hn.symm
  | some q =>
    cases q with
    | inr r => exact mm_run_it.mpr ⟨1, by rw [mm_it, hs]⟩
    | inl c' =>
      show _ = mm_run E o rt cc c'
      cases h : mm_run E o rt cc c' with
      | some r =>
        obtain ⟨n, hn⟩ := mm_run_it.mp h
        exact mm_run_it.mpr ⟨n + 1, by rw [mm_it, hs]; exact hn⟩
      | none =>
        cases h2 : mm_run E o rt cc c with
        | none => rfl
        | some r =>
          obtain ⟨n, hn⟩ := mm_run_it.mp h2
          cases n with
          | zero => simp [mm_it] at hn
          | succ n =>
            rw [mm_it, hs] at hn
            have := mm_run_it.mpr ⟨n, hn⟩
            rw [h] at this
            exact this.symm
section R
variable {E : mE} {o rt : Nat} {cc : ByteArray} {pc len : Nat} {ls st : List mV} {μ : mM} {i : mI}
theorem mm_rs {c' : mC} (hd : decode cc pc = .ok (i, len)) (hs : mm_st E o rt pc ls st μ i len = some (.inl c')) : mm_run E o rt cc (pc, ls, st, μ) = mm_run E o rt cc c' := by
  rw [mm_run_eq]
  have h : mm_sp E o rt cc (pc, ls, st, μ) = some (.inl c') := by
    unfold mm_sp
    simp only [hd]
    exact hs
  rw [h]
theorem mm_rd {r : mR} (hd : decode cc pc = .ok (i, len)) (hs : mm_st E o rt pc ls st μ i len = some (.inr r)) : mm_run E o rt cc (pc, ls, st, μ) = some r := by
  rw [mm_run_eq]
  have h : mm_sp E o rt cc (pc, ls, st, μ) = some (.inr r) := by
    unfold mm_sp
    simp only [hd]
    exact hs
  rw [h]
theorem mm_rn0 (hd : decode cc pc = .ok (i, len)) (hs : mm_st E o rt pc ls st μ i len = none) : mm_run E o rt cc (pc, ls, st, μ) = none := by
  rw [mm_run_eq]
  have h : mm_sp E o rt cc (pc, ls, st, μ) = none := by
    unfold mm_sp
    simp only [hd]
    exact hs
  rw [h]
theorem R_iconst {n : Int} (v : Int32) (hd : decode cc pc = .ok (.iconst n, 1)) (hv : Int32.ofInt n = v) : mm_run E o rt cc (pc, ls, st, μ) = mm_run E o rt cc (pc + 1, ls, vi v :: st, μ) := by subst hv; exact mm_rs hd rfl
theorem R_bipush {n : Int} (v : Int32) (hd : decode cc pc = .ok (.bipush n, 2)) (hv : (Int8.ofInt n).toInt32 = v) : mm_run E o rt cc (pc, ls, st, μ) = mm_run E o rt cc (pc + 2, ls, vi v :: st, μ) := by subst hv; exact mm_rs hd rfl
theorem R_sipush {n : Int} (v : Int32) (hd : decode cc pc = .ok (.sipush n, 3)) (hv : (Int16.ofInt n).toInt32 = v) : mm_run E o rt cc (pc, ls, st, μ) = mm_run E o rt cc (pc + 3, ls, vi v :: st, μ) := by subst hv; exact mm_rs hd rfl
theorem R_lconst {n : Fin 2} (v : Int64) (hd : decode cc pc = .ok (.lconst n, 1)) (hv : Int64.ofNat (n : Nat) = v) : mm_run E o rt cc (pc, ls, st, μ) = mm_run E o rt cc (pc + 1, ls, vl v :: st, μ) := by subst hv; exact mm_rs hd rfl
theorem R_ldc {n : Nat} {v : Int32} {x : Nat} (hd : decode cc pc = .ok (.ldc n, 2)) (hk : mm_kt o n = some (v, x)) : mm_run E o rt cc (pc, ls, st, μ) = mm_run E o rt cc (pc + 2, ls, vi v :: st, μ) := mm_rs hd (by simp [mm_st, mm_ln, mm_li, hk, mm_nx])
theorem R_ldc_w {n : Nat} {v : Int32} {x : Nat} (hd : decode cc pc = .ok (.ldc_w n, 3)) (hk : mm_kt o n = some (v, x)) : mm_run E o rt cc (pc, ls, st, μ) = mm_run E o rt cc (pc + 3, ls, vi v :: st, μ) := mm_rs hd (by simp [mm_st, mm_ln, mm_li, hk, mm_nx])
theorem R_ldc2_w {n : Nat} {v : Int64} {x : Nat} (hd : decode cc pc = .ok (.ldc2_w n, 3)) (hk : mm_lt o n = some (v, x)) : mm_run E o rt cc (pc, ls, st, μ) = mm_run E o rt cc (pc + 3, ls, vl v :: st, μ) := mm_rs hd (by simp [mm_st, mm_ln, mm_ll2, hk, mm_nx])
theorem R_iload_n {n : Fin 4} {x : Int32} (hd : decode cc pc = .ok (.iload_n n, 1)) (hl : ls[(n : Nat)]? = some (vi x)) : mm_run E o rt cc (pc, ls, st, μ) = mm_run E o rt cc (pc + 1, ls, vi x :: st, μ) := mm_rs hd (by simp [mm_st, mm_ln, mm_ild, hl, mm_nx])
theorem R_iload {n : Nat} {x : Int32} (hd : decode cc pc = .ok (.iload n, 2)) (hl : ls[n]? = some (vi x)) : mm_run E o rt cc (pc, ls, st, μ) = mm_run E o rt cc (pc + 2, ls, vi x :: st, μ) := mm_rs hd (by simp [mm_st, mm_ln, mm_ild, hl, mm_nx])
theorem R_lload_n {n : Fin 4} {x : Int64} (hd : decode cc pc = .ok (.lload_n n, 1)) (hl : ls[(n : Nat)]? = some (vl x)) : mm_run E o rt cc (pc, ls, st, μ) = mm_run E o rt cc (pc + 1, ls, vl x :: st, μ) := mm_rs hd (by simp [mm_st, mm_ln, mm_lld, hl, mm_nx])
theorem R_lload {n : Nat} {x : Int64} (hd : decode cc pc = .ok (.lload n, 2)) (hl : ls[n]? = some (vl x)) : mm_run E o rt cc (pc, ls, st, μ) = mm_run E o rt cc (pc + 2, ls, vl x :: st, μ) := mm_rs hd (by simp [mm_st, mm_ln, mm_lld, hl, mm_nx])
theorem R_aload_n {n : Fin 4} {k j : Nat} (hd : decode cc pc = .ok (.aload_n n, 1)) (hl : ls[(n : Nat)]? = some (vr k j)) (hk : k ≠ 99) : mm_run E o rt cc (pc, ls, st, μ) = mm_run E o rt cc (pc + 1, ls, vr k j :: st, μ) := mm_rs hd (by simp [mm_st, mm_ln, mm_ald, hl, mm_nx, hk])
theorem R_istore_n {n : Fin 4} {x : Int32} {ls' : List mV} (hd : decode cc pc = .ok (.istore_n n, 1)) (hn : (n : Nat) < ls.length) (h3 : rt ≠ 3) (hs : ls.set n (vi x) = ls') : mm_run E o rt cc (pc, ls, vi x :: st, μ) = mm_run E o rt cc (pc + 1, ls', st, μ) := by subst hs; exact mm_rs hd (by simp [mm_st, mm_ln, mm_ist, hn, h3, mm_nx])
theorem R_istore {n : Nat} {x : Int32} {ls' : List mV} (hd : decode cc pc = .ok (.istore n, 2)) (hn : n < ls.length) (h3 : rt ≠ 3) (hs : ls.set n (vi x) = ls') : mm_run E o rt cc (pc, ls, vi x :: st, μ) = mm_run E o rt cc (pc + 2, ls', st, μ) := by subst hs; exact mm_rs hd (by simp [mm_st, mm_ln, mm_ist, hn, h3, mm_nx])
theorem R_iinc {k : Nat} {n : Int} {x : Int32} (v : Int32) {ls' : List mV} (hd : decode cc pc = .ok (.iinc k n, 3)) (hl : ls[k]? = some (vi x)) (hv : Int32.ofInt n = v) (h3 : rt ≠ 3) (hs : ls.set k (vi (x + v)) = ls') : mm_run E o rt cc (pc, ls, st, μ) = mm_run E o rt cc (pc + 3, ls', st, μ) := by subst hs; subst hv; exact mm_rs hd (by simp [mm_st, mm_ln, mm_inc, hl, h3, mm_nx])
theorem R_iadd {a b : Int32} (hd : decode cc pc = .ok (.iadd, 1)) : mm_run E o rt cc (pc, ls, vi b :: vi a :: st, μ) = mm_run E o rt cc (pc + 1, ls, vi (a + b) :: st, μ) := mm_rs hd rfl
theorem R_isub {a b : Int32} (hd : decode cc pc = .ok (.isub, 1)) : mm_run E o rt cc (pc, ls, vi b :: vi a :: st, μ) = mm_run E o rt cc (pc + 1, ls, vi (a - b) :: st, μ) := mm_rs hd rfl
theorem R_imul {a b : Int32} (hd : decode cc pc = .ok (.imul, 1)) : mm_run E o rt cc (pc, ls, vi b :: vi a :: st, μ) = mm_run E o rt cc (pc + 1, ls, vi (a * b) :: st, μ) := mm_rs hd rfl
theorem R_ixor {a b : Int32} (hd : decode cc pc = .ok (.ixor, 1)) : mm_run E o rt cc (pc, ls, vi b :: vi a :: st, μ) = mm_run E o rt cc (pc + 1, ls, vi (a ^^^ b) :: st, μ) := mm_rs hd rfl
theorem R_idiv {a b : Int32} (hd : decode cc pc = .ok (.idiv, 1)) : mm_run E o rt cc (pc, ls, vi b :: vi a :: st, μ) = if b = 0 then none else mm_run E o rt cc (pc + 1, ls, vi (a / b) :: st, μ) := by
  by_cases h : b = 0
  · rw [if_pos h]; exact mm_rn0 hd (by simp [mm_st, mm_ln, mm_b2, h])
  · rw [if_neg h]; exact mm_rs hd (by simp [mm_st, mm_ln, mm_b2, h, mm_nx])
theorem R_irem {a b : Int32} (hd : decode cc pc = .ok (.irem, 1)) : mm_run E o rt cc (pc, ls, vi b :: vi a :: st, μ) = if b = 0 then none else mm_run E o rt cc (pc + 1, ls, vi (a - a / b * b) :: st, μ) := by
  by_cases h : b = 0
  · rw [if_pos h]; exact mm_rn0 hd (by simp [mm_st, mm_ln, mm_b2, h])
  · rw [if_neg h]; exact mm_rs hd (by simp [mm_st, mm_ln, mm_b2, h, mm_nx])
theorem R_ladd {a b : Int64} (hd : decode cc pc = .ok (.ladd, 1)) : mm_run E o rt cc (pc, ls, vl b :: vl a :: st, μ) = mm_run E o rt cc (pc + 1, ls, vl (a + b) :: st, μ) := mm_rs hd rfl
theorem R_lmul {a b : Int64} (hd : decode cc pc = .ok (.lmul, 1)) : mm_run E o rt cc (pc, ls, vl b :: vl a :: st, μ) = mm_run E o rt cc (pc + 1, ls, vl (a * b) :: st, μ) := mm_rs hd rfl
theorem R_lrem {a b : Int64} (hd : decode cc pc = .ok (.lrem, 1)) : mm_run E o rt cc (pc, ls, vl b :: vl a :: st, μ) = if b = 0 then none else mm_run E o rt cc (pc + 1, ls, vl (a - a / b * b) :: st, μ) := by
  by_cases h : b = 0
  · rw [if_pos h]; exact mm_rn0 hd (by simp [mm_st, mm_ln, mm_l2, h])
  · rw [if_neg h]; exact mm_rs hd (by simp [mm_st, mm_ln, mm_l2, h, mm_nx])
theorem R_lcmp {a b : Int64} (hd : decode cc pc = .ok (.lcmp, 1)) : mm_run E o rt cc (pc, ls, vl b :: vl a :: st, μ) = mm_run E o rt cc (pc + 1, ls, vi (lg_cmp a b) :: st, μ) := mm_rs hd rfl
theorem R_i2l {a : Int32} (hd : decode cc pc = .ok (.i2l, 1)) : mm_run E o rt cc (pc, ls, vi a :: st, μ) = mm_run E o rt cc (pc + 1, ls, vl a.toInt64 :: st, μ) := mm_rs hd rfl
theorem R_l2i {a : Int64} (hd : decode cc pc = .ok (.l2i, 1)) : mm_run E o rt cc (pc, ls, vl a :: st, μ) = mm_run E o rt cc (pc + 1, ls, vi a.toInt32 :: st, μ) := mm_rs hd rfl
theorem R_dup {v : mV} (hd : decode cc pc = .ok (.dup, 1)) (hc : mm_cat v = 1) : mm_run E o rt cc (pc, ls, v :: st, μ) = mm_run E o rt cc (pc + 1, ls, v :: v :: st, μ) := mm_rs hd (by simp [mm_st, mm_ln, mm_dup, hc, mm_nx])
theorem R_pop {v : mV} (hd : decode cc pc = .ok (.pop, 1)) (hc : mm_cat v = 1) : mm_run E o rt cc (pc, ls, v :: st, μ) = mm_run E o rt cc (pc + 1, ls, st, μ) := mm_rs hd (by simp [mm_st, mm_ln, mm_pop, hc, mm_nx])
theorem R_dup_x1 {a b : mV} (hd : decode cc pc = .ok (.dup_x1, 1)) (ha : mm_cat a = 1) (hb : mm_cat b = 1) : mm_run E o rt cc (pc, ls, a :: b :: st, μ) = mm_run E o rt cc (pc + 1, ls, a :: b :: a :: st, μ) := mm_rs hd (by simp [mm_st, mm_ln, mm_dx1, ha, hb, mm_nx])
theorem R_dup2 {a b : mV} (hd : decode cc pc = .ok (.dup2, 1)) (ha : mm_cat a = 1) (hb : mm_cat b = 1) : mm_run E o rt cc (pc, ls, a :: b :: st, μ) = mm_run E o rt cc (pc + 1, ls, a :: b :: a :: b :: st, μ) := mm_rs hd (by simp [mm_st, mm_ln, mm_dp2, ha, hb, mm_nx])
theorem mm_jp_to {off : Int} {tgt : Nat} (ht : (pc : Int) + off = (tgt : Int)) : mm_jp pc off ls st μ = some (.inl (tgt, ls, st, μ)) := by
  unfold mm_jp
  rw [ht, if_pos (by omega)]
  rfl
theorem R_goto {off : Int} (tgt : Nat) (hd : decode cc pc = .ok (.goto off, 3)) (ht : (pc : Int) + off = (tgt : Int)) : mm_run E o rt cc (pc, ls, st, μ) = mm_run E o rt cc (tgt, ls, st, μ) := mm_rs hd (by simp only [mm_st, mm_ln, if_true]; exact mm_jp_to ht)
theorem mm_br_t {off : Int} {tgt : Nat} (ht : (pc : Int) + off = (tgt : Int)) : mm_br true pc off ls st μ = some (.inl (tgt, ls, st, μ)) := by
  unfold mm_br
  rw [ht, if_pos (by omega)]
  rfl
theorem mm_br_f {off : Int} {tgt : Nat} (ht : (pc : Int) + off = (tgt : Int)) : mm_br false pc off ls st μ = some (.inl (pc + 3, ls, st, μ)) := by
  unfold mm_br
  rw [ht, if_pos (by omega)]
  rfl
theorem R_icmp {cd : Jvm.ClassFile.Cond} {off : Int} {x y : Int32} (tgt : Nat) (hd : decode cc pc = .ok (.if_icmp cd off, 3)) (ht : (pc : Int) + off = (tgt : Int)) : mm_run E o rt cc (pc, ls, vi y :: vi x :: st, μ) = if mm_hi cd x y = true then mm_run E o rt cc (tgt, ls, st, μ) else mm_run E o rt cc (pc + 3, ls, st, μ) := by
  cases h : mm_hi cd x y with
  | true => rw [if_pos rfl]; exact mm_rs hd (by simp only [mm_st, mm_ln, if_true, mm_ic, h]; exact mm_br_t ht)
  | false => rw [if_neg (by simp)]; exact mm_rs hd (by simp only [mm_st, mm_ln, if_true, mm_ic, h]; exact mm_br_f ht)
theorem R_ifc {cd : Jvm.ClassFile.Cond} {off : Int} {x : Int32} (tgt : Nat) (hd : decode cc pc = .ok (.ifCond cd off, 3)) (ht : (pc : Int) + off = (tgt : Int)) : mm_run E o rt cc (pc, ls, vi x :: st, μ) = if mm_hi cd x 0 = true then mm_run E o rt cc (tgt, ls, st, μ) else mm_run E o rt cc (pc + 3, ls, st, μ) := by
  cases h : mm_hi cd x 0 with
  | true => rw [if_pos rfl]; exact mm_rs hd (by simp only [mm_st, mm_ln, if_true, mm_if, h]; exact mm_br_t ht)
  | false => rw [if_neg (by simp)]; exact mm_rs hd (by simp only [mm_st, mm_ln, if_true, mm_if, h]; exact mm_br_f ht)
/-- a branch, told by what its condition says -/
theorem mm_cnd {α : Type} {b : Bool} {P : Prop} [Decidable P] {x y x' y' : α} (hb : b = decide P) (hx : P → x = x') (hy : ¬ P → y = y') : (if b = true then x else y) = if P then x' else y' := by
  subst hb
  by_cases h : P
  · rw [if_pos h, if_pos (decide_eq_true h)]; exact hx h
  · rw [if_neg h, if_neg (by simpa using h)]; exact hy h
theorem R_switch {d lo hi : Int} {offs : Array Int} {x : Int32} (hd : decode cc pc = .ok (.tableswitch d lo hi offs, len)) {c' : mC} (h : mm_sw pc d lo hi offs ls (vi x :: st) μ = some (.inl c')) : mm_run E o rt cc (pc, ls, vi x :: st, μ) = mm_run E o rt cc c' := mm_rs hd h
theorem R_gi {n k f a b t i j : Nat} (hd : decode cc pc = .ok (.getfield n, 3)) (hf : mm_ft o n = some (k, f, j)) (ht : (mm_fs k)[f]? = some (t, a, b)) (h2 : t ≠ 2) : mm_run E o rt cc (pc, ls, vr k i :: st, μ) = mm_run E o rt cc (pc + 3, ls, vi (μ k i f) :: st, μ) := mm_rs hd (by simp [mm_st, mm_ln, mm_gf, hf, ht, h2, mm_nx])
theorem R_gr {n k f a b i j : Nat} (hd : decode cc pc = .ok (.getfield n, 3)) (hf : mm_ft o n = some (k, f, j)) (ht : (mm_fs k)[f]? = some (2, a, b)) : mm_run E o rt cc (pc, ls, vr k i :: st, μ) = mm_run E o rt cc (pc + 3, ls, vr a (i + b) :: st, μ) := mm_rs hd (by simp [mm_st, mm_ln, mm_gf, hf, ht, mm_nx])
theorem R_pi {n k f i j : Nat} {v : Int32} {q : Nat × Nat} (hd : decode cc pc = .ok (.putfield n, 3)) (hf : mm_ft o n = some (k, f, j)) (ht : (mm_fs k)[f]? = some (0, q)) : mm_run E o rt cc (pc, ls, vi v :: vr k i :: st, μ) = mm_run E o rt cc (pc + 3, ls, st, mm_up μ k i f v) := mm_rs hd (by simp [mm_st, mm_ln, mm_pf, hf, ht, mm_nx])
theorem R_pz {n k f i j : Nat} {v : Int32} {q : Nat × Nat} (hd : decode cc pc = .ok (.putfield n, 3)) (hf : mm_ft o n = some (k, f, j)) (ht : (mm_fs k)[f]? = some (1, q)) (hv : v = 0 ∨ v = 1) : mm_run E o rt cc (pc, ls, vi v :: vr k i :: st, μ) = mm_run E o rt cc (pc + 3, ls, st, mm_up μ k i f v) := mm_rs hd (by simp [mm_st, mm_ln, mm_pf, hf, ht, mm_nx, hv])
/-- an index that is looked at -/
def ck {α : Type} (n : Nat) (j : Int32) (x : Option α) : Option α := if j < 0 ∨ n ≤ j.toNatClampNeg then none else x
theorem ck_congr {α : Type} {n : Nat} {j : Int32} {x y : Option α} (h : x = y) : ck n j x = ck n j y := by rw [h]
theorem R_al {tg n a b k i : Nat} {j : Int32} (h : mm_st E o rt pc ls (vi j :: vr k i :: st) μ = fun i' len' => mm_st E o rt pc ls (vi j :: vr k i :: st) μ i' len') (hd : decode cc pc = .ok (if tg = 0 then .iaload else .baload, 1)) (ha : mm_as k = some (tg, n, a, b)) (ht : tg = 0 ∨ tg = 1) : mm_run E o rt cc (pc, ls, vi j :: vr k i :: st, μ) = ck n j (mm_run E o rt cc (pc + 1, ls, vi (μ k i j.toNatClampNeg) :: st, μ)) := by
  unfold ck
  by_cases hj : j < 0 ∨ n ≤ j.toNatClampNeg
  · rw [if_pos hj]
    refine mm_rn0 hd ?_
    rcases ht with rfl | rfl <;> simp [mm_st, mm_ln, mm_al, ha, hj]
  · rw [if_neg hj]
    refine mm_rs hd ?_
    rcases ht with rfl | rfl <;> simp [mm_st, mm_ln, mm_al, ha, hj, mm_nx]
theorem R_iaload {n k i a b : Nat} {j : Int32} (hd : decode cc pc = .ok (.iaload, 1)) (ha : mm_as k = some (0, n, a, b)) : mm_run E o rt cc (pc, ls, vi j :: vr k i :: st, μ) = ck n j (mm_run E o rt cc (pc + 1, ls, vi (μ k i j.toNatClampNeg) :: st, μ)) := R_al (tg := 0) rfl hd ha (Or.inl rfl)
theorem R_baload {n k i a b : Nat} {j : Int32} (hd : decode cc pc = .ok (.baload, 1)) (ha : mm_as k = some (1, n, a, b)) : mm_run E o rt cc (pc, ls, vi j :: vr k i :: st, μ) = ck n j (mm_run E o rt cc (pc + 1, ls, vi (μ k i j.toNatClampNeg) :: st, μ)) := R_al (tg := 1) rfl hd ha (Or.inr rfl)
theorem R_iastore {n k i a b : Nat} {j v : Int32} (hd : decode cc pc = .ok (.iastore, 1)) (ha : mm_as k = some (0, n, a, b)) : mm_run E o rt cc (pc, ls, vi v :: vi j :: vr k i :: st, μ) = ck n j (mm_run E o rt cc (pc + 1, ls, st, mm_up μ k i j.toNatClampNeg v)) := by
  unfold ck
  by_cases hj : j < 0 ∨ n ≤ j.toNatClampNeg
  · rw [if_pos hj]
    exact mm_rn0 hd (by simp [mm_st, mm_ln, mm_sl, ha, hj])
  · rw [if_neg hj]
    exact mm_rs hd (by simp [mm_st, mm_ln, mm_sl, ha, hj, mm_nx])
theorem R_bastore {n k i a b : Nat} {j v : Int32} (hd : decode cc pc = .ok (.bastore, 1)) (ha : mm_as k = some (1, n, a, b)) : mm_run E o rt cc (pc, ls, vi v :: vi j :: vr k i :: st, μ) = ck n j (mm_run E o rt cc (pc + 1, ls, st, mm_up μ k i j.toNatClampNeg (vp_nar .boolean v))) := by
  unfold ck
  by_cases hj : j < 0 ∨ n ≤ j.toNatClampNeg
  · rw [if_pos hj]
    exact mm_rn0 hd (by simp [mm_st, mm_ln, mm_sl, ha, hj])
  · rw [if_neg hj]
    exact mm_rs hd (by simp [mm_st, mm_ln, mm_sl, ha, hj, mm_nx])
theorem R_aaload {n k i a b : Nat} {j : Int32} (hd : decode cc pc = .ok (.aaload, 1)) (ha : mm_as k = some (2, n, a, b)) : mm_run E o rt cc (pc, ls, vi j :: vr k i :: st, μ) = ck n j (mm_run E o rt cc (pc + 1, ls, vr a (j.toNatClampNeg + b) :: st, μ)) := by
  unfold ck
  by_cases hj : j < 0 ∨ n ≤ j.toNatClampNeg
  · rw [if_pos hj]
    exact mm_rn0 hd (by simp [mm_st, mm_ln, mm_aa, ha, hj])
  · rw [if_neg hj]
    exact mm_rs hd (by simp [mm_st, mm_ln, mm_aa, ha, hj, mm_nx])
theorem R_cv {n id cl k i np r : Nat} {q : Nat × Nat × Nat} {f : List mV → mM → Option mR} {as rest : List mV} (hd : decode cc pc = .ok (.invokevirtual n, 3)) (hm : mm_mt o n = some (0, id, cl, q)) (hn : (mm_qn id).2.2.2.1 = np) (hr : (mm_qn id).2.1 = r) (hE : E id = f) (hk : k = cl) (hst : st.drop np = vr k i :: rest) (ha : (st.take np).reverse = as) (hc : mm_ct rest ≤ 8) :
    mm_run E o rt cc (pc, ls, st, μ) = (f (vr k i :: as) μ).bind (fun x => mm_run E o rt cc (pc + 3, ls, (if r = 0 then rest else vi x.1 :: rest), x.2)) := by
  subst hn; subst hr; subst hE; subst ha; subst hk
  cases h : E id (vr k i :: (st.take (mm_qn id).2.2.2.1).reverse) μ with
  | none => exact mm_rn0 hd (by simp [mm_st, mm_ln, mm_cv, hm, hst, hc, h])
  | some x => exact mm_rs hd (by simp [mm_st, mm_ln, mm_cv, hm, hst, hc, h, mm_nx])
theorem R_cs {n id np r t : Nat} {q : Nat × Nat × Nat × Nat} {f : List mV → mM → Option mR} {as rest : List mV} (hd : decode cc pc = .ok (.invokestatic n, 3)) (hm : mm_mt o n = some (t, id, q)) (ht : t = 1 ∨ t = 2) (hn : (mm_qn id).2.2.2.1 = np) (hr : (mm_qn id).2.1 = r) (hE : E id = f) (hl : np ≤ st.length) (hst : st.drop np = rest) (ha : (st.take np).reverse = as) (hc : mm_ct rest ≤ 8) :
    mm_run E o rt cc (pc, ls, st, μ) = (f as μ).bind (fun x => mm_run E o rt cc (pc + 3, ls, (if r = 0 then rest else vi x.1 :: rest), x.2)) := by
  subst hn; subst hr; subst hE; subst ha; subst hst
  have h3 : ¬ t = 3 := by rcases ht with rfl | rfl <;> decide
  cases h : E id (st.take (mm_qn id).2.2.2.1).reverse μ with
  | none => exact mm_rn0 hd (by simp [mm_st, mm_ln, mm_cs, hm, ht, h3, hl, hc, h])
  | some x => exact mm_rs hd (by simp [mm_st, mm_ln, mm_cs, hm, ht, h3, hl, hc, h, mm_nx])
theorem R_ac {n id n0 n1 k0 i0 k1 i1 : Nat} {a0 a1 : Nat × Nat} {q : Nat × Nat × Nat × Nat} {l dp sp : Int32} (hd : decode cc pc = .ok (.invokestatic n, 3)) (hm : mm_mt o n = some (3, id, q)) (h0 : mm_as k0 = some (0, n0, a0)) (h1 : mm_as k1 = some (0, n1, a1)) (hc : mm_ct st ≤ 8) :
    mm_run E o rt cc (pc, ls, vi l :: vi dp :: vr k1 i1 :: vi sp :: vr k0 i0 :: st, μ) = if l < 0 ∨ sp < 0 ∨ dp < 0 ∨ n0 < sp.toNatClampNeg + l.toNatClampNeg ∨ n1 < dp.toNatClampNeg + l.toNatClampNeg then none else mm_run E o rt cc (pc + 3, ls, st, mm_row μ k1 i1 (va_cpy (μ k0 i0) (μ k1 i1) sp.toNatClampNeg dp.toNatClampNeg l.toNatClampNeg)) := by
  have hc' : ¬ 8 < mm_ct st := by omega
  by_cases h : l < 0 ∨ sp < 0 ∨ dp < 0 ∨ n0 < sp.toNatClampNeg + l.toNatClampNeg ∨ n1 < dp.toNatClampNeg + l.toNatClampNeg
  · rw [if_pos h]
    refine mm_rn0 hd ?_
    simp only [mm_st, mm_ln, mm_cs, hm, mm_ac, h0, h1, if_true, and_self]
    rw [if_pos (by rcases h with h | h | h | h | h <;> simp [h])]
  · rw [if_neg h]
    refine mm_rs hd ?_
    simp only [mm_st, mm_ln, mm_cs, hm, mm_ac, h0, h1, if_true, and_self]
    rw [if_neg (by simp only [not_or] at h ⊢; exact ⟨h.1, h.2.1, h.2.2.1, h.2.2.2.1, h.2.2.2.2, hc'⟩)]
    rfl
theorem R_ireturn {v : Int32} (hd : decode cc pc = .ok (.ireturn, 1)) (hr : rt = 1) : mm_run E o rt cc (pc, ls, [vi v], μ) = some (v, μ) := mm_rd hd (by simp [mm_st, mm_ln, mm_ir, hr])
theorem R_zreturn {v : Int32} (hd : decode cc pc = .ok (.ireturn, 1)) (hr : rt = 2 ∨ rt = 3) (hv : v = 0 ∨ v = 1) : mm_run E o rt cc (pc, ls, [vi v], μ) = some (v, μ) := mm_rd hd (by simp [mm_st, mm_ln, mm_ir, hr, hv])
theorem R_zreturn' {v : Int32} (hd : decode cc pc = .ok (.ireturn, 1)) (hr : rt = 2 ∨ rt = 3) : mm_run E o rt cc (pc, ls, [vi v], μ) = if v = 0 ∨ v = 1 then some (v, μ) else none := by
  by_cases hv : v = 0 ∨ v = 1
  · rw [if_pos hv]; exact R_zreturn hd hr hv
  · rw [if_neg hv]
    have h1 : ¬ rt = 1 := by rcases hr with rfl | rfl <;> decide
    exact mm_rn0 hd (by simp [mm_st, mm_ln, mm_ir, hr, hv, h1])
theorem R_return (hd : decode cc pc = .ok (.return_, 1)) (hr : rt = 0) : mm_run E o rt cc (pc, ls, [], μ) = some (0, μ) := mm_rd hd (by simp [mm_st, mm_ln, mm_vr, hr])
theorem mm_bind {α β : Type} {x : Option α} {f g : α → Option β} (h : ∀ a, f a = g a) : x.bind f = x.bind g := by
  cases x with
  | none => rfl
  | some a => exact h a
end R
/-- a method as a function: its locals at the entry -/
def mm_xp : List mV → List mV
  | [] => []
  | .inr (.inr x) :: l => .inr (.inr x) :: vu :: mm_xp l
  | v :: l => v :: mm_xp l
def mm_en (nL : Nat) (as : List mV) : List mV := mm_xp as ++ List.replicate (nL - (mm_xp as).length) vu
def mm_c1s : List mV → Bool
  | [] => true
  | v :: l => (mm_cat v == 1) && mm_c1s l
noncomputable def mm_fn (E : mE) (o rt nL : Nat) (cc : ByteArray) (as : List mV) (μ : mM) : Option mR :=
  if (mm_xp as).length ≤ nL ∧ (rt = 3 ∨ mm_c1s as = true) then mm_run E o rt cc (0, mm_en nL as, [], μ) else none
end
section
/-! The small machine is sound: what it answers, the machine does. -/
def mm_tv (ad : Nat → Nat → Nat) : mV → Value
  | .inl x => .int x
  | .inr (.inl q) => .ref (ad q.1 q.2)
  | .inr (.inr x) => .long x
def mm_fv (ad : Nat → Nat → Nat) (μ : mM) (k i : Nat) (q : (Nat × Nat × Nat) × Nat) : Value := if q.1.1 = 2 then .ref (ad q.1.2.1 (i + q.1.2.2)) else .int (μ k i q.2)
def mm_fvs (ad : Nat → Nat → Nat) (μ : mM) (k i : Nat) : List Value := (mm_fs k).zipIdx.map (mm_fv ad μ k i)
def mm_ae (ad : Nat → Nat → Nat) (cy : Nat → ClassId) (μ : mM) (k i : Nat) (q : Nat × Nat × Nat × Nat) : va_E :=
  if q.1 = 2 then .inl (cy k, q.2.1, .inr (.inr (.inr (.inr (fun j => some (ad q.2.2.1 (j + q.2.2.2))))))) else .inl (cy q.1, q.2.1, .inl (μ k i))
def mm_ce (ad : Nat → Nat → Nat) (cy : Nat → ClassId) (μ : mM) (k i : Nat) : va_E :=
  if k < 9 then .inr (k, mm_fvs ad μ k i) else match mm_as k with
    | some q => mm_ae ad cy μ k i q
    | none => .inl (cy 0, 0, .inl (fun _ => 0))
def mm_wl (ad : Nat → Nat → Nat) (cy : Nat → ClassId) (μ : mM) : va_W := mm_all.map (fun q => (ad q.1 q.2, mm_ce ad cy μ q.1 q.2))
def mm_ty (cy : Nat → ClassId) : List (ClassId × FieldType) := [(cy 0, .int), (cy 1, .boolean), (cy 16, .object RX6), (cy 17, .object RX2), (cy 33, .array .int)]
def mm_adr (ad : Nat → Nat → Nat) (z : Nat) : Prop := (∀ p ∈ mm_all, ∀ q ∈ mm_all, ad p.1 p.2 = ad q.1 q.2 → p = q) ∧ ∀ p ∈ mm_all, z ≤ ad p.1 p.2
theorem mm_nodup : mm_all.Nodup := by decide +kernel
theorem mm_idx {q : Nat × Nat} (h : q ∈ mm_all) (ad : Nat → Nat → Nat) (cy : Nat → ClassId) : ∃ n : Nat, mm_all[n]? = some q ∧ ∀ μ : mM, (mm_wl ad cy μ)[n]? = some (ad q.1 q.2, mm_ce ad cy μ q.1 q.2) := by
  obtain ⟨n, hn⟩ := List.getElem?_of_mem h
  exact ⟨n, hn, fun μ => by simp [mm_wl, hn]⟩
theorem mm_D {ad : Nat → Nat → Nat} {cy : Nat → ClassId} {μ : mM} {z : Nat} (h : mm_adr ad z) : va_D (fun q => z ≤ q) (mm_wl ad cy μ) := by
  have key : ∀ (k : Nat) (q : Nat × va_E), (mm_wl ad cy μ)[k]? = some q → ∃ x, mm_all[k]? = some x ∧ x ∈ mm_all ∧ q.1 = ad x.1 x.2 := by
    intro k q hk
    simp only [mm_wl, List.getElem?_map] at hk
    cases hx : mm_all[k]? with
    | none => rw [hx] at hk; cases hk
    | some x => rw [hx] at hk; cases hk; exact ⟨x, rfl, List.mem_of_getElem? hx, rfl⟩
  refine ⟨fun i j p q hi hj hpq => ?_, fun k q hk => ?_⟩
  · obtain ⟨x, h1, h2, h3⟩ := key i p hi
    obtain ⟨y, h4, h5, h6⟩ := key j q hj
    have hxy := h.1 x h2 y h5 (by rw [← h3, ← h6]; exact hpq)
    subst hxy
    exact (List.getElem?_inj (List.getElem?_eq_some_iff.mp h1).1 mm_nodup).mp (h1.trans h4.symm)
  · obtain ⟨x, -, h2, h3⟩ := key k q hk
    rw [h3]
    exact h.2 x h2
theorem mm_set {α : Type} {f g : Nat × Nat → α} {n : Nat} {q : Nat × Nat} (hn : mm_all[n]? = some q) (h : ∀ x ∈ mm_all, x ≠ q → f x = g x) : (mm_all.map f).set n (g q) = mm_all.map g := by
  apply List.ext_getElem?
  intro j
  have hl := (List.getElem?_eq_some_iff.mp hn).1
  by_cases hj : j = n
  · subst hj
    rw [List.getElem?_set_self (by simpa using hl), List.getElem?_map, hn]
    rfl
  · rw [List.getElem?_set_ne (Ne.symm hj), List.getElem?_map, List.getElem?_map]
    cases hx : mm_all[j]? with
    | none => rfl
    | some x =>
      have hne : x ≠ q := fun e => by
        subst e
        exact hj ((List.getElem?_inj (List.getElem?_eq_some_iff.mp hx).1 mm_nodup).mp (hx.trans hn.symm))
      show some (f x) = some (g x)
      rw [h x (List.mem_of_getElem? hx) hne]
theorem mm_ce_up {ad : Nat → Nat → Nat} {cy : Nat → ClassId} {μ : mM} {k i j : Nat} {v : Int32} {x : Nat × Nat} (h : x ≠ (k, i)) : mm_ce ad cy μ x.1 x.2 = mm_ce ad cy (mm_up μ k i j v) x.1 x.2 := by
  have e : ∀ f, mm_up μ k i j v x.1 x.2 f = μ x.1 x.2 f := fun f => by
    unfold mm_up
    rw [if_neg (fun q => h (Prod.ext q.1 q.2.1))]
  have e2 : mm_up μ k i j v x.1 x.2 = μ x.1 x.2 := funext e
  unfold mm_ce mm_fvs mm_ae
  have e3 : mm_fv ad μ x.1 x.2 = mm_fv ad (mm_up μ k i j v) x.1 x.2 := by
    funext q
    unfold mm_fv
    rw [e]
  rw [e3, e2]
theorem mm_ce_row {ad : Nat → Nat → Nat} {cy : Nat → ClassId} {μ : mM} {k i : Nat} {f : Nat → Int32} {x : Nat × Nat} (h : x ≠ (k, i)) : mm_ce ad cy μ x.1 x.2 = mm_ce ad cy (mm_row μ k i f) x.1 x.2 := by
  have e2 : mm_row μ k i f x.1 x.2 = μ x.1 x.2 := by
    unfold mm_row
    rw [if_neg (fun q => h (Prod.ext q.1 q.2))]
  unfold mm_ce mm_fvs mm_ae
  have e3 : mm_fv ad μ x.1 x.2 = mm_fv ad (mm_row μ k i f) x.1 x.2 := by
    funext q
    unfold mm_fv
    rw [e2]
  rw [e3, e2]
theorem mm_fvs_get {ad : Nat → Nat → Nat} {μ : mM} {k i f : Nat} {t : Nat × Nat × Nat} (h : (mm_fs k)[f]? = some t) : (mm_fvs ad μ k i)[f]? = some (mm_fv ad μ k i (t, f)) := by
  simp [mm_fvs, List.getElem?_zipIdx, h]
theorem mm_fvs_up {ad : Nat → Nat → Nat} {μ : mM} {k i f : Nat} {v : Int32} {t : Nat × Nat × Nat} (h : (mm_fs k)[f]? = some t) (ht : t.1 ≠ 2) : (mm_fvs ad μ k i).set f (.int v) = mm_fvs ad (mm_up μ k i f v) k i := by
  have hl : f < (mm_fvs ad μ k i).length := by
    simp [mm_fvs]
    exact (List.getElem?_eq_some_iff.mp h).1
  apply List.ext_getElem?
  intro j
  by_cases hj : j = f
  · subst hj
    rw [List.getElem?_set_self hl, mm_fvs_get h]
    simp [mm_fv, ht, mm_up]
  · rw [List.getElem?_set_ne (Ne.symm hj)]
    cases hx : (mm_fs k)[j]? with
    | none =>
      have h1 : ∀ μ' : mM, (mm_fvs ad μ' k i)[j]? = none := fun μ' => by simp [mm_fvs, List.getElem?_zipIdx, hx]
      rw [h1, h1]
    | some t' =>
      rw [mm_fvs_get hx, mm_fvs_get hx]
      simp [mm_fv, mm_up, hj]
/-- the words of nest mates -/
def mm_isn : Cond → Bool
  | .methodLinkNest _ _ _ _ => true
  | _ => false
def mm_nw : List Cond := lw_tbl.filter mm_isn
theorem mm_nw_warm {s U : State} (hW : s.WarmedH U.vm) (h : ∀ w ∈ mm_nw, va_Nw w s) : ∀ w ∈ mm_nw, va_Nw w U := by
  intro w hw
  have h1 := h w hw
  have h2 := (List.mem_filter.mp hw).2
  cases w <;> first | (simp [mm_isn] at h2; done) | exact va_Nw.warmM hW h1
theorem mm_nw_same {u U : State} (hv : u.vm = U.vm) (h : ∀ w ∈ mm_nw, va_Nw w u) : ∀ w ∈ mm_nw, va_Nw w U := by
  intro w hw
  have h1 := h w hw
  have h2 := (List.mem_filter.mp hw).2
  cases w <;> first | (simp [mm_isn] at h2; done) | exact va_Nw.same rfl hv h1
def mm_rm (id : Nat) : Room := { frames := (mm_qn id).2.2.1, cells := 0, slots := 0, locals := 40 * (mm_qn id).2.2.1 }
def mm_wd (id : Nat) : List Cond := .code (mm_yn id) (mm_cn id) (mm_qn id).1 (mm_rf (mm_qn id).2.1) :: mm_gt
def mm_B (ad : Nat → Nat → Nat) (D : va_G) (cy : Nat → ClassId) (μ : mM) : State → Prop := fun U => va_K D vwCl (mm_ty cy) U ∧ (∀ w ∈ mm_nw, va_Nw w U) ∧ va_P D vwCl (mm_wl ad cy μ) U.heap
def mm_Q (ad : Nat → Nat → Nat) (D : va_G) (cy : Nat → ClassId) (z rt : Nat) (r : Int32) (μ : mM) : Array Value → State → Outcome → State → Prop :=
  if rt = 0 then va_Qv (fun _ : Unit => True) (fun _ t => va_P D vwCl (mm_wl ad cy μ) t.heap) (fun q => z ≤ q)
  else va_Qi (fun x (_ : Unit) => x = r) (fun _ t => va_P D vwCl (mm_wl ad cy μ) t.heap) (fun q => z ≤ q)
def mm_met (l : Launch) (ad : Nat → Nat → Nat) (D : va_G) (cy : Nat → ClassId) (z id : Nat) (as : List mV) (μ : mM) (r : Int32) (μ' : mM) : Prop :=
  Met l (mm_yn id) (mm_wd id) (mm_rm id) (va_Pc (as.map (mm_tv ad)) (mm_B ad D cy μ)) (mm_Q ad D cy z (mm_qn id).2.1 r μ') 0 0 (fun q => z ≤ q)
/-- a function that is the method -/
def mm_OK (l : Launch) (id : Nat) (f : List mV → mM → Option mR) : Prop := ∀ (ad : Nat → Nat → Nat) (D : va_G) (cy : Nat → ClassId) (z : Nat) (as : List mV) (μ : mM) (r : Int32) (μ' : mM), f as μ = some (r, μ') → (∀ v ∈ as, mm_ok v) → mm_adr ad z → mm_met l ad D cy z id as μ r μ'
def mm_L (ad : Nat → Nat → Nat) (rt nL : Nat) (A : Array Slot) (ls : List mV) : Prop := A.size = nL ∧ lv_wf A ∧ ls.length = nL ∧ (rt ≠ 3 → ∀ v ∈ ls, mm_cat v = 1) ∧ ∀ (i : Nat) (v : mV), ls[i]? = some v → (∃ j, v = .inr (.inl (99, j))) ∨ (mm_ok v ∧ A[i]? = some (.val (mm_tv ad v)))
/-- what stays through a method -/
def mm_G (p : Program) (R : Room) (s : State) (m : MethodId) (args : Array Value) (meth : Method) (c : Code) (cc : ByteArray) (nL o rt : Nat) (ad : Nat → Nat → Nat) (D : va_G) (cy : Nat → ClassId) (z : Nat) : Prop :=
  p.tables.exec = Jvm.exec ∧ c.code = cc ∧ c.maxLocals = nL ∧ s.vm.findClass (mm_rn o) = some m.cls ∧ (∀ w ∈ mm_gt, w.before args s = true) ∧ va_K D vwCl (mm_ty cy) s ∧ (∀ w ∈ mm_nw, va_Nw w s) ∧ mm_adr ad z ∧ 1 ≤ R.frames ∧ 40 ≤ R.locals ∧ meth.sig.returnType = mm_rf rt ∧ meth.locks = false
def mm_V (p : Program) (l : Launch) (e : Env) (R : Room) (s : State) (m : MethodId) (args : Array Value) (below : List Frame) (meth : Method) (c : Code) (ad : Nat → Nat → Nat) (D : va_G) (cy : Nat → ClassId) (z rt nL : Nat) (Q : State → Prop) (x : mC) : Prop :=
  ∀ (H : Heap) (locs : List Loc) (A : Array Slot), va_P D vwCl (mm_wl ad cy x.2.2.2) H → va_S (fun q => z ≤ q) s.heap H locs → mm_L ad rt nL A x.2.1 → (∀ v ∈ x.2.2.1, mm_ok v) → W p l e R s m args below meth c H locs 0 0 Q (F0 m x.1 A (x.2.2.1.map (mm_tv ad)))
theorem mm_ok_fs : ∀ q ∈ mm_all, ∀ (f : Nat) (t : Nat × Nat × Nat), (mm_fs q.1)[f]? = some t → t.1 = 2 → (t.2.1, q.2 + t.2.2) ∈ mm_all := by
  have h : mm_all.all (fun q => (mm_fs q.1).all (fun t => !(t.1 == 2) || decide ((t.2.1, q.2 + t.2.2) ∈ mm_all))) = true := by decide +kernel
  intro q hq f t ht h2
  have h1 := List.all_eq_true.mp (List.all_eq_true.mp h q hq) t (List.mem_of_getElem? ht)
  simpa [h2] using h1
theorem mm_ok_as : ∀ q ∈ mm_all, ∀ t, mm_as q.1 = some t → t.1 = 2 → ∀ j, j < t.2.1 → (t.2.2.1, j + t.2.2.2) ∈ mm_all := by
  have h : mm_all.all (fun q => match mm_as q.1 with
    | some t => !(t.1 == 2) || (List.range t.2.1).all (fun j => decide ((t.2.2.1, j + t.2.2.2) ∈ mm_all))
    | none => true) = true := by decide +kernel
  intro q hq t ht h2 j hj
  have h1 := List.all_eq_true.mp h q hq
  simp only [ht, h2] at h1
  have h3 : ((List.range t.2.1).all (fun j => decide ((t.2.2.1, j + t.2.2.2) ∈ mm_all))) = true := by simpa using h1
  simpa using List.all_eq_true.mp h3 j (List.mem_range.mpr hj)
theorem mm_as_hi : ∀ q ∈ mm_all, ∀ t, mm_as q.1 = some t → ¬ q.1 < 9 ∧ (t.1 = 0 ∨ t.1 = 1 ∨ (t.1 = 2 ∧ (q.1 = 16 ∨ q.1 = 17 ∨ q.1 = 33))) := by
  have h : mm_all.all (fun q => match mm_as q.1 with
    | some t => !decide (q.1 < 9) && (t.1 == 0 || t.1 == 1 || (t.1 == 2 && (q.1 == 16 || q.1 == 17 || q.1 == 33)))
    | none => true) = true := by decide +kernel
  intro q hq t ht
  have h1 := List.all_eq_true.mp h q hq
  simp only [ht] at h1
  simp at h1
  omega
end
section
theorem mm_tv_cat (ad : Nat → Nat → Nat) (v : mV) : (mm_tv ad v).category = mm_cat v := by
  rcases v with x | x | x <;> rfl
theorem mm_ct_sum (ad : Nat → Nat → Nat) (l : List mV) : ((l.map (mm_tv ad)).map fun v => v.category).sum = mm_ct l := by
  unfold mm_ct
  rw [List.map_map]
  congr 1
  apply List.map_congr_left
  intro v _
  exact mm_tv_cat ad v
def mm_lv (ad : Nat → Nat → Nat) (ls : List mV) : List (Nat × Value) := ls.zipIdx.filterMap (fun q => match q.1 with
  | .inr (.inl (99, _)) => none
  | v => some (q.2, mm_tv ad v))
theorem mm_99 (v : mV) : (∃ j, v = .inr (.inl (99, j))) ∨ ¬ ∃ j, v = .inr (.inl (99, j)) := Classical.em _
theorem mm_lv_some {ad : Nat → Nat → Nat} {ls : List mV} {i : Nat} {v : mV} (h : ls[i]? = some v) (hn : ¬ ∃ j, v = .inr (.inl (99, j))) : (i, mm_tv ad v) ∈ mm_lv ad ls := by
  refine List.mem_filterMap.mpr ⟨(v, i), ?_, ?_⟩
  · rw [List.mem_zipIdx_iff_getElem?]
    exact h
  · split
    · rename_i hj
      exact absurd ⟨_, hj⟩ hn
    · rfl
theorem mm_lv_mem {ad : Nat → Nat → Nat} {ls : List mV} {q : Nat × Value} (h : q ∈ mm_lv ad ls) : ∃ v, ls[q.1]? = some v ∧ q.2 = mm_tv ad v ∧ ¬ ∃ j, v = .inr (.inl (99, j)) := by
  obtain ⟨⟨v, i⟩, h1, h2⟩ := List.mem_filterMap.mp h
  rw [List.mem_zipIdx_iff_getElem?] at h1
  split at h2
  · cases h2
  · rename_i hne
    cases h2
    exact ⟨v, h1, rfl, fun ⟨j, hj⟩ => hne j hj⟩
theorem mm_L_has {ad : Nat → Nat → Nat} {rt nL : Nat} {A : Array Slot} {ls : List mV} (h : mm_L ad rt nL A ls) : lv_has A nL (mm_lv ad ls) := by
  refine ⟨h.1, h.2.1, fun q hq => ?_⟩
  obtain ⟨v, h1, h2, h3⟩ := mm_lv_mem hq
  rcases h.2.2.2.2 q.1 v h1 with h4 | h4
  · exact absurd h4 h3
  · rw [h2]; exact h4.2
/-- an int stored -/
theorem mm_L_set {ad : Nat → Nat → Nat} {rt nL i : Nat} {x : Int32} {A A' : Array Slot} {ls : List mV} (h : mm_L ad rt nL A ls) (hi : i < ls.length) (h3 : rt ≠ 3) (h' : lv_has A' nL ((i, Value.int x) :: (mm_lv ad ls).filter (fun q => !(q.1 == i) && !(q.1 + 1 == i && q.2.category == 2)))) : mm_L ad rt nL A' (ls.set i (.inl x)) := by
  refine ⟨h'.1, h'.2.1, by rw [List.length_set]; exact h.2.2.1, fun _ v hv => ?_, fun j v hv => ?_⟩
  · rcases List.mem_or_eq_of_mem_set hv with h1 | h1
    · exact h.2.2.2.1 h3 v h1
    · rw [h1]; rfl
  · by_cases hj : j = i
    · subst hj
      rw [List.getElem?_set_self hi] at hv
      cases hv
      exact Or.inr ⟨trivial, h'.2.2 (j, .int x) List.mem_cons_self⟩
    · rw [List.getElem?_set_ne (Ne.symm hj)] at hv
      rcases mm_99 v with h1 | h1
      · exact Or.inl h1
      · right
        have hm := mm_lv_some (ad := ad) hv h1
        have hok := (h.2.2.2.2 j v hv).resolve_left h1
        refine ⟨hok.1, h'.2.2 (j, mm_tv ad v) (List.mem_cons_of_mem _ (List.mem_filter.mpr ⟨hm, ?_⟩))⟩
        have hc : (mm_tv ad v).category = 1 := by rw [mm_tv_cat]; exact h.2.2.2.1 h3 v (List.mem_of_getElem? hv)
        simp [hj, hc]
section ST
variable {p : Program} {l : Launch} {e : Env} {R : Room} {s : State} {m : MethodId} {args : Array Value} {below : List Frame} {meth : Method} {c : Code} {cc : ByteArray} {nL o rt : Nat} {ad : Nat → Nat → Nat} {D : va_G} {cy : Nat → ClassId} {z : Nat} {Q : State → Prop} {pc : Nat} {ls st : List mV} {μ : mM}
theorem mm_okc {v : mV} {st : List mV} (h : ∀ w ∈ v :: st, mm_ok w) : mm_ok v ∧ ∀ w ∈ st, mm_ok w := ⟨h v List.mem_cons_self, fun w hw => h w (List.mem_cons_of_mem _ hw)⟩
theorem mm_oki {v : mV} {st : List mV} (h1 : mm_ok v) (h : ∀ w ∈ st, mm_ok w) : ∀ w ∈ v :: st, mm_ok w := fun w hw => by
  rcases List.mem_cons.mp hw with rfl | hw
  · exact h1
  · exact h w hw
/-- a jump within the small machine -/
theorem mm_jp_inv {off : Int} {x : mC ⊕ mR} (h : mm_jp pc off ls st μ = some x) : ∃ tgt : Nat, (pc : Int) + off = (tgt : Int) ∧ x = .inl (tgt, ls, st, μ) := by
  unfold mm_jp at h
  split at h
  · rename_i h0
    cases h
    exact ⟨((pc : Int) + off).toNat, by omega, rfl⟩
  · cases h
theorem mm_sti {n : Nat} (G : mm_G p R s m args meth c cc nL o rt ad D cy z) {d : Nat} {x : Int32} {st' : List mV} (hrow : ∀ (H : Heap) (locs : List Loc) (A : Array Slot) (lv : List (Nat × Value)) (rest : List Value), lv_has A nL lv → n < nL → (∀ A' : Array Slot, lv_has A' nL ((n, Value.int x) :: lv.filter (fun q => !(q.1 == n) && !(q.1 + 1 == n && q.2.category == 2))) → W p l e R s m args below meth c H locs 0 0 Q (F0 m d A' rest)) → W p l e R s m args below meth c H locs 0 0 Q (F0 m pc A (Value.int x :: rest))) (hst : st = .inl x :: st') (hn : n < ls.length) (h3 : rt ≠ 3) (hv : mm_V p l e R s m args below meth c ad D cy z rt nL Q (d, ls.set n (.inl x), st', μ)) : mm_V p l e R s m args below meth c ad D cy z rt nL Q (pc, ls, st, μ) := by
  subst hst
  intro H locs A hP hS hL hok
  refine hrow H locs A (mm_lv ad ls) (st'.map (mm_tv ad)) (mm_L_has hL) (by rw [← hL.2.2.1]; exact hn) (fun A' hA' => ?_)
  exact hv H locs A' hP hS (mm_L_set hL hn h3 hA') (mm_okc hok).2
theorem mm_wrd {own n : Nat} (w : Cond) (G : mm_G p R s m args meth c cc nL o rt ad D cy z) (h : mm_w1 n w = true) : w.before args s = true := G.2.2.2.2.1 w (mm_w1_in h)
end ST
end
section
theorem mm_ln_inv {len n : Nat} {y : mS} {x : mC ⊕ mR} (h : mm_ln len n y = some x) : len = n ∧ y = some x := by
  unfold mm_ln at h
  split at h
  · rename_i h0; exact ⟨h0, h⟩
  · cases h
section INV
variable {pc : Nat} {ls st : List mV} {μ : mM} {x : mC ⊕ mR}
theorem mm_b2_inv {f : Int32 → Int32 → Option Int32} (h : mm_b2 f pc ls st μ = some x) : ∃ a b v st', st = .inl b :: .inl a :: st' ∧ f a b = some v ∧ x = .inl (pc, ls, .inl v :: st', μ) := by
  unfold mm_b2 at h
  split at h
  · split at h
    · rename_i v hv
      cases h
      exact ⟨_, _, v, _, rfl, hv, rfl⟩
    · cases h
  · cases h
theorem mm_l2_inv {f : Int64 → Int64 → Option mV} (h : mm_l2 f pc ls st μ = some x) : ∃ a b v st', st = .inr (.inr b) :: .inr (.inr a) :: st' ∧ f a b = some v ∧ x = .inl (pc, ls, v :: st', μ) := by
  unfold mm_l2 at h
  split at h
  · split at h
    · rename_i v hv
      cases h
      exact ⟨_, _, v, _, rfl, hv, rfl⟩
    · cases h
  · cases h
theorem mm_ild_inv {i : Nat} (h : mm_ild pc i ls st μ = some x) : ∃ v, ls[i]? = some (.inl v) ∧ x = .inl (pc, ls, .inl v :: st, μ) := by
  unfold mm_ild at h
  split at h
  · rename_i v hv
    cases h
    exact ⟨v, hv, rfl⟩
  · cases h
theorem mm_lld_inv {i : Nat} (h : mm_lld pc i ls st μ = some x) : ∃ v, ls[i]? = some (.inr (.inr v)) ∧ x = .inl (pc, ls, .inr (.inr v) :: st, μ) := by
  unfold mm_lld at h
  split at h
  · rename_i v hv
    cases h
    exact ⟨v, hv, rfl⟩
  · cases h
theorem mm_ald_inv {i : Nat} (h : mm_ald pc i ls st μ = some x) : ∃ k j, ls[i]? = some (.inr (.inl (k, j))) ∧ k ≠ 99 ∧ x = .inl (pc, ls, .inr (.inl (k, j)) :: st, μ) := by
  unfold mm_ald at h
  split at h
  · split at h
    · cases h
    · rename_i k j hv hk
      cases h
      exact ⟨k, j, hv, hk, rfl⟩
  · cases h
theorem mm_ist_inv {rt i : Nat} (h : mm_ist rt pc i ls st μ = some x) : ∃ v st', st = .inl v :: st' ∧ i < ls.length ∧ rt ≠ 3 ∧ x = .inl (pc, ls.set i (.inl v), st', μ) := by
  unfold mm_ist at h
  split at h
  · split at h
    · rename_i hc
      cases h
      exact ⟨_, _, rfl, hc.1, hc.2, rfl⟩
    · cases h
  · cases h
theorem mm_inc_inv {rt i : Nat} {n : Int} (h : mm_inc rt pc i n ls st μ = some x) : ∃ v, ls[i]? = some (.inl v) ∧ rt ≠ 3 ∧ x = .inl (pc, ls.set i (.inl (v + Int32.ofInt n)), st, μ) := by
  unfold mm_inc at h
  split at h
  · split at h
    · rename_i v hv hc
      cases h
      exact ⟨v, hv, hc, rfl⟩
    · cases h
  · cases h
theorem mm_br_inv {b : Bool} {off : Int} (h : mm_br b pc off ls st μ = some x) : ∃ tgt : Nat, (pc : Int) + off = (tgt : Int) ∧ ((b = true ∧ x = .inl (tgt, ls, st, μ)) ∨ (b = false ∧ x = .inl (pc + 3, ls, st, μ))) := by
  unfold mm_br at h
  split at h
  · rename_i h0
    refine ⟨((pc : Int) + off).toNat, by omega, ?_⟩
    split at h
    · rename_i hb
      cases h
      exact Or.inl ⟨hb, rfl⟩
    · rename_i hb
      cases h
      exact Or.inr ⟨by simpa using hb, rfl⟩
  · cases h
theorem mm_gf_inv {o idx : Nat} (h : mm_gf o idx pc ls st μ = some x) : ∃ k i f j t st', st = .inr (.inl (k, i)) :: st' ∧ mm_ft o idx = some (k, f, j) ∧ (mm_fs k)[f]? = some t ∧ x = .inl (pc, ls, (if t.1 = 2 then .inr (.inl (t.2.1, i + t.2.2)) else .inl (μ k i f)) :: st', μ) := by
  unfold mm_gf at h
  split at h
  · split at h
    · split at h
      · rename_i hk
        subst hk
        split at h
        · rename_i hf _ _ _ _ _ ht
          split at h
          · rename_i h2
            cases h
            exact ⟨_, _, _, _, _, _, rfl, by assumption, by assumption, by simp [h2]⟩
          · rename_i h2
            cases h
            exact ⟨_, _, _, _, _, _, rfl, by assumption, by assumption, by simp [h2]⟩
        · cases h
      · cases h
    · cases h
  · cases h
theorem mm_pf_inv {o idx : Nat} (h : mm_pf o idx pc ls st μ = some x) : ∃ k i f j t v st', st = .inl v :: .inr (.inl (k, i)) :: st' ∧ mm_ft o idx = some (k, f, j) ∧ (mm_fs k)[f]? = some t ∧ (t.1 = 0 ∨ (t.1 = 1 ∧ (v = 0 ∨ v = 1))) ∧ x = .inl (pc, ls, st', mm_up μ k i f v) := by
  unfold mm_pf at h
  split at h
  · split at h
    · split at h
      · rename_i hk
        subst hk
        split at h
        · split at h
          · rename_i h2
            cases h
            exact ⟨_, _, _, _, _, _, _, rfl, by assumption, by assumption, h2, rfl⟩
          · cases h
        · cases h
      · cases h
    · cases h
  · cases h
theorem mm_al_inv {tg : Nat} (h : mm_al tg pc ls st μ = some x) : ∃ j k i n q st', st = .inl j :: .inr (.inl (k, i)) :: st' ∧ mm_as k = some (tg, n, q) ∧ vp_in j n ∧ x = .inl (pc, ls, .inl (μ k i j.toNatClampNeg) :: st', μ) := by
  unfold mm_al at h
  split at h
  · split at h
    · split at h
      · rename_i hk
        subst hk
        split at h
        · cases h
        · rename_i hj
          cases h
          exact ⟨_, _, _, _, _, _, rfl, by assumption, hj, rfl⟩
      · cases h
    · cases h
  · cases h
theorem mm_sl_inv {tg : Nat} (h : mm_sl tg pc ls st μ = some x) : ∃ v j k i n q st', st = .inl v :: .inl j :: .inr (.inl (k, i)) :: st' ∧ mm_as k = some (tg, n, q) ∧ vp_in j n ∧ x = .inl (pc, ls, st', mm_up μ k i j.toNatClampNeg (if tg = 0 then v else vp_nar .boolean v)) := by
  unfold mm_sl at h
  split at h
  · split at h
    · split at h
      · rename_i hk
        subst hk
        split at h
        · cases h
        · rename_i hj
          cases h
          exact ⟨_, _, _, _, _, _, _, rfl, by assumption, hj, rfl⟩
      · cases h
    · cases h
  · cases h
theorem mm_aa_inv (h : mm_aa pc ls st μ = some x) : ∃ j k i n k' off st', st = .inl j :: .inr (.inl (k, i)) :: st' ∧ mm_as k = some (2, n, k', off) ∧ vp_in j n ∧ x = .inl (pc, ls, .inr (.inl (k', j.toNatClampNeg + off)) :: st', μ) := by
  unfold mm_aa at h
  split at h
  · split at h
    · split at h
      · rename_i hk
        subst hk
        split at h
        · cases h
        · rename_i hj
          cases h
          exact ⟨_, _, _, _, _, _, _, rfl, by assumption, hj, rfl⟩
      · cases h
    · cases h
  · cases h
theorem mm_cv_inv {E : mE} {o idx : Nat} (h : mm_cv E o idx pc ls st μ = some x) : ∃ id cl q i rest r μ', mm_mt o idx = some (0, id, cl, q) ∧ st.drop (mm_qn id).2.2.2.1 = .inr (.inl (cl, i)) :: rest ∧ mm_ct rest ≤ 8 ∧ E id (.inr (.inl (cl, i)) :: (st.take (mm_qn id).2.2.2.1).reverse) μ = some (r, μ') ∧ x = .inl (pc, ls, (if (mm_qn id).2.1 = 0 then rest else .inl r :: rest), μ') := by
  unfold mm_cv at h
  split at h
  · split at h
    · split at h
      · rename_i hk
        obtain ⟨rfl, hc⟩ := hk
        split at h
        · cases h
          exact ⟨_, _, _, _, _, _, _, by assumption, by assumption, hc, by assumption, rfl⟩
        · cases h
      · cases h
    · cases h
  · cases h
theorem mm_ac_inv (h : mm_ac pc ls st μ = some x) : ∃ n dp k1 i1 sp k0 i0 st' n0 n1 q0 q1, st = .inl n :: .inl dp :: .inr (.inl (k1, i1)) :: .inl sp :: .inr (.inl (k0, i0)) :: st' ∧ mm_as k0 = some (0, n0, q0) ∧ mm_as k1 = some (0, n1, q1) ∧ ¬ n < 0 ∧ ¬ sp < 0 ∧ ¬ dp < 0 ∧ sp.toNatClampNeg + n.toNatClampNeg ≤ n0 ∧ dp.toNatClampNeg + n.toNatClampNeg ≤ n1 ∧ mm_ct st' ≤ 8 ∧ x = .inl (pc, ls, st', mm_row μ k1 i1 (va_cpy (μ k0 i0) (μ k1 i1) sp.toNatClampNeg dp.toNatClampNeg n.toNatClampNeg)) := by
  unfold mm_ac at h
  split at h
  · split at h
    · split at h
      · rename_i ht
        obtain ⟨rfl, rfl⟩ := ht
        split at h
        · cases h
        · rename_i hj
          simp only [not_or, Nat.not_lt] at hj
          cases h
          exact ⟨_, _, _, _, _, _, _, _, _, _, _, _, rfl, by assumption, by assumption, hj.1, hj.2.1, hj.2.2.1, hj.2.2.2.1, hj.2.2.2.2.1, hj.2.2.2.2.2, rfl⟩
      · cases h
    · cases h
  · cases h
theorem mm_cs_inv {E : mE} {o idx : Nat} (h : mm_cs E o idx pc ls st μ = some x) : (∃ id q, mm_mt o idx = some (3, id, q) ∧ mm_ac pc ls st μ = some x) ∨ ∃ t id q r μ', mm_mt o idx = some (t, id, q) ∧ (t = 1 ∨ t = 2) ∧ (mm_qn id).2.2.2.1 ≤ st.length ∧ mm_ct (st.drop (mm_qn id).2.2.2.1) ≤ 8 ∧ E id (st.take (mm_qn id).2.2.2.1).reverse μ = some (r, μ') ∧ x = .inl (pc, ls, (if (mm_qn id).2.1 = 0 then st.drop (mm_qn id).2.2.2.1 else .inl r :: st.drop (mm_qn id).2.2.2.1), μ') := by
  unfold mm_cs at h
  split at h
  · split at h
    · rename_i h3
      subst h3
      exact Or.inl ⟨_, _, by assumption, h⟩
    · split at h
      · rename_i ht
        split at h
        · rename_i hc
          split at h
          · cases h
            exact Or.inr ⟨_, _, _, _, _, by assumption, ht, hc.1, hc.2, by assumption, rfl⟩
          · cases h
        · cases h
      · cases h
  · cases h
end INV
end
section
theorem mm_ft_ok {o i k f j : Nat} (h : mm_ft o i = some (k, f, j)) : ∃ r : vw_C, vwCl[k]? = some r ∧ f < r.2.2 ∧ Cond.fieldLink (mm_rn o) i (r.2.1 f).1 (r.2.1 f).2.1 (r.2.1 f).2.2.1 ∈ mm_gt := by
  unfold mm_ft at h
  cases hq : mm_fl.find? (fun q => q.1 == o && q.2.1 == i) with
  | none => rw [hq] at h; cases h
  | some q =>
    rw [hq] at h
    cases h
    have h1 := List.find?_some hq
    simp only [Bool.and_eq_true, beq_iff_eq] at h1
    have h2 := List.all_eq_true.mp mm_fl_ok q (List.mem_of_find?_eq_some hq)
    unfold mm_fchk at h2
    split at h2
    · rename_i r hr
      simp only [Bool.and_eq_true, decide_eq_true_eq] at h2
      refine ⟨r, hr, h2.1, ?_⟩
      rw [← h1.1, ← h1.2]
      exact mm_w1_in h2.2
    · cases h2
theorem mm_kt_ok {o i j : Nat} {v : Int32} (h : mm_kt o i = some (v, j)) : Cond.constant (mm_rn o) i v ∈ mm_gt := by
  unfold mm_kt at h
  cases hq : mm_kl.find? (fun q => q.1 == o && q.2.1 == i) with
  | none => rw [hq] at h; cases h
  | some q =>
    rw [hq] at h
    cases h
    have h1 := List.find?_some hq
    simp only [Bool.and_eq_true, beq_iff_eq] at h1
    have h2 := List.all_eq_true.mp mm_kl_ok q (List.mem_of_find?_eq_some hq)
    rw [← h1.1, ← h1.2]
    exact mm_w1_in h2
theorem mm_lt_ok {o i j : Nat} {v : Int64} (h : mm_lt o i = some (v, j)) : Cond.constantLong (mm_rn o) i v ∈ mm_gt := by
  unfold mm_lt at h
  cases hq : mm_ll.find? (fun q => q.1 == o && q.2.1 == i) with
  | none => rw [hq] at h; cases h
  | some q =>
    rw [hq] at h
    cases h
    have h1 := List.find?_some hq
    simp only [Bool.and_eq_true, beq_iff_eq] at h1
    have h2 := List.all_eq_true.mp mm_ll_ok q (List.mem_of_find?_eq_some hq)
    rw [← h1.1, ← h1.2]
    exact mm_w1_in h2
theorem mm_mt_ok {o i t id cl a b d : Nat} (h : mm_mt o i = some (t, id, cl, a, b, d)) : mm_mchk (o, i, t, id, cl, a, b, d) = true := by
  unfold mm_mt at h
  cases hq : mm_ml.find? (fun q => q.1 == o && q.2.1 == i) with
  | none => rw [hq] at h; cases h
  | some q =>
    rw [hq] at h
    cases h
    have h1 := List.find?_some hq
    simp only [Bool.and_eq_true, beq_iff_eq] at h1
    have h2 := List.all_eq_true.mp mm_ml_ok q (List.mem_of_find?_eq_some hq)
    rw [← h1.1, ← h1.2]
    exact h2
/-- the class's own words -/
theorem mm_ucl : ∀ (k : Nat) (r : vw_C), vwCl[k]? = some r → ∀ w ∈ u_ws r.1 r.2.1 r.2.2, w ∈ mm_gt := by
  have h : vwCl.all (fun r => (u_ws r.1 r.2.1 r.2.2).all (fun w => decide (w ∈ lw_tbl) && goodWord w)) = true := by decide +kernel
  intro k r hr w hw
  have h1 := List.all_eq_true.mp (List.all_eq_true.mp h r (List.mem_of_getElem? hr)) w hw
  simp only [Bool.and_eq_true, decide_eq_true_eq] at h1
  exact List.mem_filter.mpr h1
def mm_tyo : Nat → Nat → FieldType
  | 0 => tyX0
  | 1 => tyX1
  | 2 => tyX2
  | 3 => tyX3
  | 4 => tyX4
  | 5 => tyX5
  | 6 => tyX6
  | 7 => tyX7
  | _ => tyX8
theorem mm_cls_ok : ∀ (k : Nat) (r : vw_C), vwCl[k]? = some r → (∀ f, f < r.2.2 → parseFieldDescriptor (r.2.1 f).2.2.1 = some (mm_tyo k f)) ∧ (∀ a, a < r.2.2 → ∀ b, b < r.2.2 → a ≠ b → (r.2.1 a).2.1 ≠ (r.2.1 b).2.1) ∧ r.2.2 = (mm_fs k).length ∧ ∀ f, f < r.2.2 → ∀ t, (mm_fs k)[f]? = some t → t.1 ≠ 2 → (r.2.1 f).2.2.2 = false ∧ ((t.1 = 0 ∧ mm_tyo k f = .int) ∨ (t.1 = 1 ∧ mm_tyo k f = .boolean)) := by
  intro k r hr
  match k, hr with
  | 0, hr => cases hr; exact ⟨tyX0_ok, nmX0, rfl, by decide +kernel⟩
  | 1, hr => cases hr; exact ⟨tyX1_ok, nmX1, rfl, by decide +kernel⟩
  | 2, hr => cases hr; exact ⟨tyX2_ok, nmX2, rfl, by decide +kernel⟩
  | 3, hr => cases hr; exact ⟨tyX3_ok, nmX3, rfl, by decide +kernel⟩
  | 4, hr => cases hr; exact ⟨tyX4_ok, nmX4, rfl, by decide +kernel⟩
  | 5, hr => cases hr; exact ⟨tyX5_ok, nmX5, rfl, by decide +kernel⟩
  | 6, hr => cases hr; exact ⟨tyX6_ok, nmX6, rfl, by decide +kernel⟩
  | 7, hr => cases hr; exact ⟨tyX7_ok, nmX7, rfl, by decide +kernel⟩
  | 8, hr => cases hr; exact ⟨tyX8_ok, nmX8, rfl, by decide +kernel⟩
  | k + 9, hr => simp [vwCl] at hr
theorem mm_cl_lt {k : Nat} {r : vw_C} (h : vwCl[k]? = some r) : k < 9 := (List.getElem?_eq_some_iff.mp h).1
section MEM
variable {p : Program} {l : Launch} {e : Env} {R : Room} {s : State} {m : MethodId} {args : Array Value} {below : List Frame} {meth : Method} {c : Code} {cc : ByteArray} {nL o rt : Nat} {ad : Nat → Nat → Nat} {D : va_G} {cy : Nat → ClassId} {z : Nat} {Q : State → Prop} {pc : Nat} {ls st : List mV} {μ : mM} {x : mC ⊕ mR}
/-- what a step leads to -/
def mm_T (p : Program) (l : Launch) (e : Env) (R : Room) (s : State) (m : MethodId) (args : Array Value) (below : List Frame) (meth : Method) (c : Code) (ad : Nat → Nat → Nat) (D : va_G) (cy : Nat → ClassId) (z rt nL : Nat) (Q : State → Prop) : mC ⊕ mR → Prop
  | .inl c' => mm_V p l e R s m args below meth c ad D cy z rt nL Q c'
  | .inr q => Q = MQ below (mm_Q ad D cy z rt q.1 q.2) args s 0 0 (fun q => z ≤ q)
theorem o_getfield {n : Nat} (G : mm_G p R s m args meth c cc nL o rt ad D cy z) (hd : decode cc pc = .ok (.getfield n, 3)) (h : mm_gf o n (pc + 3) ls st μ = some x) (hx : mm_T p l e R s m args below meth c ad D cy z rt nL Q x) : mm_V p l e R s m args below meth c ad D cy z rt nL Q (pc, ls, st, μ) := by
  obtain ⟨k, i, f, j, t, st', rfl, hf, ht, rfl⟩ := mm_gf_inv h
  obtain ⟨r, hr, hlt, hw⟩ := mm_ft_ok hf
  have hk := mm_cl_lt hr
  intro H locs A hP hS hL hok
  have hq : (k, i) ∈ mm_all := (mm_okc hok).1
  obtain ⟨n0, -, hn⟩ := mm_idx hq ad cy
  have he := hn μ
  simp only [mm_ce, if_pos hk] at he
  refine va_get G.1 G.2.1 (T := r.2.1) (C := r.1) (N := r.2.2) (own := mm_rn o) G.2.2.2.2.1 (mm_ucl k r hr) G.2.2.2.1 G.2.2.2.2.2.1 hP n0 he hr f hlt (G.2.2.2.2.1 _ hw) (fun _ h9 => h9) (mm_fvs_get ht) hd ?_
  have hv := hx H locs A hP hS hL (mm_oki (by
    by_cases h2 : t.1 = 2
    · rw [if_pos h2]; exact mm_ok_fs (k, i) hq f t ht h2
    · rw [if_neg h2]; exact trivial) (mm_okc hok).2)
  have e : mm_fv ad μ k i (t, f) = mm_tv ad (if t.1 = 2 then .inr (.inl (t.2.1, i + t.2.2)) else .inl (μ k i f)) := by
    unfold mm_fv
    by_cases h2 : t.1 = 2
    · rw [if_pos h2, if_pos h2]; rfl
    · rw [if_neg h2, if_neg h2]; rfl
  rw [e]
  exact hv
theorem o_putfield {n : Nat} (G : mm_G p R s m args meth c cc nL o rt ad D cy z) (hd : decode cc pc = .ok (.putfield n, 3)) (h : mm_pf o n (pc + 3) ls st μ = some x) (hx : mm_T p l e R s m args below meth c ad D cy z rt nL Q x) : mm_V p l e R s m args below meth c ad D cy z rt nL Q (pc, ls, st, μ) := by
  obtain ⟨k, i, f, j, t, v, st', rfl, hf, ht, htv, rfl⟩ := mm_pf_inv h
  obtain ⟨r, hr, hlt, hw⟩ := mm_ft_ok hf
  have hk := mm_cl_lt hr
  obtain ⟨c1, c2, c3, c4⟩ := mm_cls_ok k r hr
  have h2 : t.1 ≠ 2 := by rcases htv with h0 | h0 <;> omega
  obtain ⟨hfin, hty⟩ := c4 f hlt t ht h2
  intro H locs A hP hS hL hok
  have hq : (k, i) ∈ mm_all := (mm_okc (mm_okc hok).2).1
  obtain ⟨n0, hn0, hn⟩ := mm_idx hq ad cy
  have he := hn μ
  simp only [mm_ce, if_pos hk] at he
  have hnar : narrow (mm_tyo k f) (.int v) = .int v ∧ fits (mm_tyo k f) (.int v) = true := by
    rcases hty with ⟨-, h1⟩ | ⟨h0, h1⟩
    · rw [h1]; exact ⟨rfl, rfl⟩
    · rw [h1]
      have hv : v = 0 ∨ v = 1 := by
        rcases htv with h3 | h3
        · omega
        · exact h3.2
      rcases hv with rfl | rfl
      · exact ⟨by decide, by decide⟩
      · exact ⟨by decide, by decide⟩
  refine va_put G.1 G.2.1 (T := r.2.1) (C := r.1) (N := r.2.2) (own := mm_rn o) G.2.2.2.2.1 (mm_ucl k r hr) (mm_tyo k) c1 c2 G.2.2.2.1 G.2.2.2.2.2.1 hP (mm_D G.2.2.2.2.2.2.2.1) hS n0 he hr f hlt (G.2.2.2.2.1 _ hw) (fun _ h9 => h9) hfin (c1 f hlt) hnar.1 hnar.2 (by simp [mm_fvs, ← c3]; exact hlt) hd (fun H1 locs1 hP1 _ hS1 => ?_)
  refine hx H1 locs1 A ?_ hS1 hL (mm_okc (mm_okc hok).2).2
  have e : (mm_wl ad cy μ).set n0 (ad k i, .inr (k, (mm_fvs ad μ k i).set f (.int v))) = mm_wl ad cy (mm_up μ k i f v) := by
    have h5 := mm_set (f := fun q => (ad q.1 q.2, mm_ce ad cy μ q.1 q.2)) (g := fun q => (ad q.1 q.2, mm_ce ad cy (mm_up μ k i f v) q.1 q.2)) hn0 (fun y _ hy => by rw [mm_ce_up hy])
    unfold mm_wl
    rw [← h5]
    simp only [mm_ce, if_pos hk]
    rw [mm_fvs_up ht h2]
  have hP2 : va_P D vwCl ((mm_wl ad cy μ).set n0 (ad k i, .inr (k, (mm_fvs ad μ k i).set f (.int v)))) H1 := hP1
  rw [e] at hP2
  exact hP2
theorem mm_arr {k i n : Nat} {q : Nat × Nat} {t : Nat} (hq : (k, i) ∈ mm_all) (ha : mm_as k = some (t, n, q)) (ht : t ≠ 2) : mm_ce ad cy μ k i = .inl (cy t, n, .inl (μ k i)) := by
  have h9 := (mm_as_hi (k, i) hq _ ha).1
  unfold mm_ce mm_ae
  rw [if_neg h9, ha]
  simp [ht]
theorem o_iaload (G : mm_G p R s m args meth c cc nL o rt ad D cy z) (hd : decode cc pc = .ok (.iaload, 1)) (h : mm_al 0 (pc + 1) ls st μ = some x) (hx : mm_T p l e R s m args below meth c ad D cy z rt nL Q x) : mm_V p l e R s m args below meth c ad D cy z rt nL Q (pc, ls, st, μ) := by
  obtain ⟨j, k, i, n, q, st', rfl, ha, hj, rfl⟩ := mm_al_inv h
  intro H locs A hP hS hL hok
  have hq : (k, i) ∈ mm_all := (mm_okc (mm_okc hok).2).1
  obtain ⟨n0, -, hn⟩ := mm_idx hq ad cy
  have he := hn μ
  rw [mm_arr hq ha (by decide)] at he
  exact va_iald G.1 G.2.1 G.2.2.2.2.2.1 hP n0 0 he rfl hj hd (hx H locs A hP hS hL (mm_oki trivial (mm_okc (mm_okc hok).2).2))
theorem o_baload (G : mm_G p R s m args meth c cc nL o rt ad D cy z) (hd : decode cc pc = .ok (.baload, 1)) (h : mm_al 1 (pc + 1) ls st μ = some x) (hx : mm_T p l e R s m args below meth c ad D cy z rt nL Q x) : mm_V p l e R s m args below meth c ad D cy z rt nL Q (pc, ls, st, μ) := by
  obtain ⟨j, k, i, n, q, st', rfl, ha, hj, rfl⟩ := mm_al_inv h
  intro H locs A hP hS hL hok
  have hq : (k, i) ∈ mm_all := (mm_okc (mm_okc hok).2).1
  obtain ⟨n0, -, hn⟩ := mm_idx hq ad cy
  have he := hn μ
  rw [mm_arr hq ha (by decide)] at he
  exact va_zald G.1 G.2.1 G.2.2.2.2.2.1 hP n0 1 he rfl hj hd (hx H locs A hP hS hL (mm_oki trivial (mm_okc (mm_okc hok).2).2))
theorem mm_upd_wl {k i n n0 t j : Nat} {q : Nat × Nat} {v : Int32} (hn0 : mm_all[n0]? = some (k, i)) (ha : mm_as k = some (t, n, q)) (ht : t ≠ 2) : (mm_wl ad cy μ).set n0 (ad k i, .inl (cy t, n, .inl (upd (μ k i) j v))) = mm_wl ad cy (mm_up μ k i j v) := by
  have hq : (k, i) ∈ mm_all := List.mem_of_getElem? hn0
  have h5 := mm_set (f := fun q => (ad q.1 q.2, mm_ce ad cy μ q.1 q.2)) (g := fun q => (ad q.1 q.2, mm_ce ad cy (mm_up μ k i j v) q.1 q.2)) hn0 (fun y _ hy => by rw [mm_ce_up hy])
  unfold mm_wl
  rw [← h5]
  simp only
  rw [mm_arr hq ha ht]
  have e : mm_up μ k i j v k i = upd (μ k i) j v := by
    funext q
    simp [mm_up, upd]
  rw [e]
theorem o_iastore (G : mm_G p R s m args meth c cc nL o rt ad D cy z) (hd : decode cc pc = .ok (.iastore, 1)) (h : mm_sl 0 (pc + 1) ls st μ = some x) (hx : mm_T p l e R s m args below meth c ad D cy z rt nL Q x) : mm_V p l e R s m args below meth c ad D cy z rt nL Q (pc, ls, st, μ) := by
  obtain ⟨v, j, k, i, n, q, st', rfl, ha, hj, rfl⟩ := mm_sl_inv h
  intro H locs A hP hS hL hok
  have hok2 := (mm_okc (mm_okc hok).2).2
  have hq : (k, i) ∈ mm_all := (mm_okc hok2).1
  obtain ⟨n0, hn0, hn⟩ := mm_idx hq ad cy
  have he := hn μ
  rw [mm_arr hq ha (by decide)] at he
  refine va_iast G.1 G.2.1 G.2.2.2.2.2.1 hP (mm_D G.2.2.2.2.2.2.2.1) hS n0 0 he rfl hj hd (fun H1 locs1 hP1 _ hS1 => ?_)
  rw [mm_upd_wl hn0 ha (by decide)] at hP1
  exact hx H1 locs1 A hP1 hS1 hL (mm_okc hok2).2
theorem o_bastore (G : mm_G p R s m args meth c cc nL o rt ad D cy z) (hd : decode cc pc = .ok (.bastore, 1)) (h : mm_sl 1 (pc + 1) ls st μ = some x) (hx : mm_T p l e R s m args below meth c ad D cy z rt nL Q x) : mm_V p l e R s m args below meth c ad D cy z rt nL Q (pc, ls, st, μ) := by
  obtain ⟨v, j, k, i, n, q, st', rfl, ha, hj, rfl⟩ := mm_sl_inv h
  intro H locs A hP hS hL hok
  have hok2 := (mm_okc (mm_okc hok).2).2
  have hq : (k, i) ∈ mm_all := (mm_okc hok2).1
  obtain ⟨n0, hn0, hn⟩ := mm_idx hq ad cy
  have he := hn μ
  rw [mm_arr hq ha (by decide)] at he
  refine va_zast G.1 G.2.1 G.2.2.2.2.2.1 hP (mm_D G.2.2.2.2.2.2.2.1) hS n0 1 he rfl hj hd (fun H1 locs1 hP1 _ hS1 => ?_)
  rw [mm_upd_wl hn0 ha (by decide)] at hP1
  exact hx H1 locs1 A hP1 hS1 hL (mm_okc hok2).2
theorem o_aaload (G : mm_G p R s m args meth c cc nL o rt ad D cy z) (hd : decode cc pc = .ok (.aaload, 1)) (h : mm_aa (pc + 1) ls st μ = some x) (hx : mm_T p l e R s m args below meth c ad D cy z rt nL Q x) : mm_V p l e R s m args below meth c ad D cy z rt nL Q (pc, ls, st, μ) := by
  obtain ⟨j, k, i, n, k', off, st', rfl, ha, hj, rfl⟩ := mm_aa_inv h
  intro H locs A hP hS hL hok
  have hq : (k, i) ∈ mm_all := (mm_okc (mm_okc hok).2).1
  obtain ⟨n0, -, hn⟩ := mm_idx hq ad cy
  have he := hn μ
  obtain ⟨h9, hk⟩ := mm_as_hi (k, i) hq _ ha
  have hk : k = 16 ∨ k = 17 ∨ k = 33 := by
    rcases hk with h0 | h0 | h0
    · cases h0
    · cases h0
    · exact h0.2
  have ec : mm_ce ad cy μ k i = .inl (cy k, n, .inr (.inr (.inr (.inr (fun j => some (ad k' (j + off))))))) := by
    unfold mm_ce mm_ae
    rw [if_neg h9, ha]
    simp
  rw [ec] at he
  have hlt : j.toNatClampNeg < n := Nat.not_le.mp fun q => hj (Or.inr q)
  have hkk := hx H locs A hP hS hL (mm_oki (mm_ok_as (k, i) hq _ ha rfl _ hlt) (mm_okc (mm_okc hok).2).2)
  have harr : ∃ ty : FieldType, ty.isReference = true ∧ ArrOfT s (cy k) ty := by
    rcases hk with rfl | rfl | rfl
    · exact ⟨_, rfl, (G.2.2.2.2.2.1.2 2 _ rfl).1⟩
    · exact ⟨_, rfl, (G.2.2.2.2.2.1.2 3 _ rfl).1⟩
    · exact ⟨_, rfl, (G.2.2.2.2.2.1.2 4 _ rfl).1⟩
  obtain ⟨ty, hty, hA⟩ := harr
  exact W.aald (v := .ref (ad k' (j.toNatClampNeg + off))) (ty := ty) G.1 G.2.1 (hP n0 _ he) (hA n (fun j => va_rf (some (ad k' (j + off))))) hty (fun q => by cases q) (by show ¬ (j < 0 ∨ (arrV _ _ _).slots.size ≤ _); rw [arrV_size]; exact hj) (by show (arrV _ _ _).slots[_]? = _; rw [arrV_read _ _ hlt]; rfl) rfl rfl hd hkk
end MEM
end
section
section CALL
variable {p : Program} {l : Launch} {e : Env} {R : Room} {s : State} {m : MethodId} {args : Array Value} {below : List Frame} {meth : Method} {c : Code} {cc : ByteArray} {nL o rt : Nat} {ad : Nat → Nat → Nat} {D : va_G} {cy : Nat → ClassId} {z : Nat} {Q : State → Prop} {pc : Nat} {ls st : List mV} {μ : mM} {x : mC ⊕ mR} {E : mE}
def mm_EOK (l : Launch) (R : Room) (ad : Nat → Nat → Nat) (D : va_G) (cy : Nat → ClassId) (z : Nat) (E : mE) : Prop := ∀ (id : Nat) (as : List mV) (μ : mM) (r : Int32) (μ' : mM), E id as μ = some (r, μ') → (∀ v ∈ as, mm_ok v) →
  mm_met l ad D cy z id as μ r μ' ∧ (mm_qn id).2.2.1 + 1 ≤ R.frames ∧ 8 + ((mm_qn id).1 + 11) + 40 * (mm_qn id).2.2.1 ≤ R.locals ∧ id < 143
theorem mm_blind (av : List Value) (μ : mM) : FrameBlind (va_Pc av (mm_B ad D cy μ)) := by
  intro a U g mk q
  obtain ⟨q0, qK, qN, qP⟩ := q
  exact ⟨q0, va_K.moved (u := U) (U := U.calling g mk a) (Vm.Alike.refl U.vm) qK, mm_nw_same (u := U) (U := U.calling g mk a) rfl qN, qP⟩
theorem mm_pcU {H : Heap} {μ : mM} (G : mm_G p R s m args meth c cc nL o rt ad D cy z) (hP : va_P D vwCl (mm_wl ad cy μ) H) (U : State) (hU : U.heap = H) (hW : s.WarmedH U.vm) : mm_B ad D cy μ U :=
  ⟨va_K.moved hW.alike G.2.2.2.2.2.1, mm_nw_warm hW G.2.2.2.2.2.2.1, by rw [hU]; exact hP⟩
/-- the words of a method, by its number -/
theorem mm_code_in : ∀ id, id < 143 → Cond.code (mm_yn id) (mm_cn id) (mm_qn id).1 (mm_rf (mm_qn id).2.1) ∈ mm_gt ∧ Cond.initialized (mm_yn id).cls ∈ mm_gt ∧ (mm_yn id).cls ≠ "java/lang/invoke/MethodHandle" ∧ (mm_yn id).cls ≠ "java/lang/invoke/VarHandle" ∧ (parseMethodDescriptor (mm_yn id).desc).map (fun d => d.parameters.length) = some (mm_qn id).2.2.2.1 ∧ plainFor (mm_yn id) = true := by
  have hi : (List.range 143).all (fun id => mm_w1 (mm_qn id).2.2.2.2.2 (.initialized (mm_yn id).cls) && decide ((mm_yn id).cls ≠ "java/lang/invoke/MethodHandle") && decide ((mm_yn id).cls ≠ "java/lang/invoke/VarHandle") && decide ((parseMethodDescriptor (mm_yn id).desc).map (fun d => d.parameters.length) = some (mm_qn id).2.2.2.1) && plainFor (mm_yn id)) = true := by decide +kernel
  intro id hid
  have h1 := List.all_eq_true.mp hi id (List.mem_range.mpr hid)
  simp only [Bool.and_eq_true, decide_eq_true_eq] at h1
  refine ⟨mm_cw id hid, mm_w1_in h1.1.1.1.1, h1.1.1.1.2, h1.1.1.2, h1.1.2, h1.2⟩
theorem mm_good_wd {id : Nat} (hid : id < 143) : GoodIn mm_gt (mm_wd id) := by
  have h : ∀ w ∈ mm_wd id, w ∈ mm_gt := by
    intro w hw
    rcases List.mem_cons.mp hw with rfl | h
    · exact (mm_code_in id hid).1
    · exact h
  exact fun w hw => ⟨h w hw, good_of_word (List.mem_filter.mp (h w hw)).2⟩
theorem mm_revmap {st : List mV} {n : Nat} : st.map (mm_tv ad) = ((st.take n).reverse.map (mm_tv ad)).reverse ++ (st.drop n).map (mm_tv ad) := by
  rw [List.map_reverse, List.reverse_reverse, ← List.map_append, List.take_append_drop]
/-- behind a call -/
theorem mm_after {id r' : Nat} {r : Int32} {μ' : mM} {rest : List mV} {H : Heap} {locs : List Loc} {A : Array Slot} {st0 : List Value} {a : Array Value} (hrun : va_Run p l e R s m args below meth c H locs 0 0 0 0 (F0 m pc A st0) (rest.map (mm_tv ad)) (mm_Q ad D cy z (mm_qn id).2.1 r μ' a) (fun q => z ≤ q)) (hS : va_S (fun q => z ≤ q) s.heap H locs) (hL : mm_L ad rt nL A ls) (hok : ∀ v ∈ rest, mm_ok v)
    (hx : mm_V p l e R s m args below meth c ad D cy z rt nL Q (pc + 3, ls, (if (mm_qn id).2.1 = 0 then rest else .inl r :: rest), μ')) : W p l e R s m args below meth c H locs 0 0 Q (F0 m pc A st0) := by
  unfold mm_Q at hrun
  by_cases h0 : (mm_qn id).2.1 = 0
  · rw [if_pos h0] at hrun
    rw [if_pos h0] at hx
    refine va_callv hrun hS (fun q _ h => h) (fun q h => h) (fun u t H1 locs1 ht hvm hw hB hz1 hk1 hS1 => ?_)
    rw [ht] at hB
    exact hx H1 locs1 A hB hS1 hL hok
  · rw [if_neg h0] at hrun
    rw [if_neg h0] at hx
    refine va_calli hrun hS (fun q _ h => h) (fun q h => h) (fun x u t H1 locs1 ht hvm hw hB hz1 hk1 hS1 => ?_)
    rw [ht] at hB
    subst hw
    exact hx H1 locs1 A hB hS1 hL (mm_oki trivial hok)
theorem o_invokevirtual {n : Nat} (G : mm_G p R s m args meth c cc nL o rt ad D cy z) (hE : mm_EOK l R ad D cy z E) (hd : decode cc pc = .ok (.invokevirtual n, 3)) (h : mm_cv E o n (pc + 3) ls st μ = some x) (hx : mm_T p l e R s m args below meth c ad D cy z rt nL Q x) : mm_V p l e R s m args below meth c ad D cy z rt nL Q (pc, ls, st, μ) := by
  obtain ⟨id, cl, ⟨qa, qb, qd⟩, i, rest, r, μ', hm, hdr, hc, hcall, rfl⟩ := mm_cv_inv h
  intro H locs A hP hS hL hok
  have hok1 : ∀ v ∈ st.take (mm_qn id).2.2.2.1, mm_ok v := fun v hv => hok v (List.mem_of_mem_take hv)
  have hok2 : ∀ v ∈ .inr (.inl (cl, i)) :: rest, mm_ok v := fun v hv => hok v (List.mem_of_mem_drop (by rw [hdr]; exact hv))
  obtain ⟨hM, hfr, hlo, hid⟩ := hE id _ μ r μ' hcall (mm_oki (mm_okc hok2).1 (fun v hv => hok1 v (List.mem_reverse.mp hv)))
  obtain ⟨hcode, hini, hy1, hy2, hpar, -⟩ := mm_code_in id hid
  have hck := mm_mt_ok hm
  simp only [mm_mchk, Bool.and_eq_true, decide_eq_true_eq] at hck
  obtain ⟨⟨⟨⟨w1, w2⟩, w3⟩, hcls⟩, hcl⟩ := hck
  have hts := G.2.2.2.2.1
  have hq : (cl, i) ∈ mm_all := (mm_okc hok2).1
  obtain ⟨n0, -, hn⟩ := mm_idx hq ad cy
  have he := hn μ
  simp only [mm_ce, if_pos hcl] at he
  have hlen : (st.take (mm_qn id).2.2.2.1).length = (mm_qn id).2.2.2.1 := by
    rw [List.length_take]
    have : 0 < (st.drop (mm_qn id).2.2.2.1).length := by rw [hdr]; simp
    rw [List.length_drop] at this
    omega
  obtain ⟨rc, hrc⟩ : ∃ rc, vwCl[cl]? = some rc := ⟨_, List.getElem?_eq_getElem (show cl < vwCl.length from hcl)⟩
  have hrn : rc.1 = mm_rn cl := by
    match cl, hcl, hrc with
    | 0, _, hrc => cases hrc; rfl
    | 1, _, hrc => cases hrc; rfl
    | 2, _, hrc => cases hrc; rfl
    | 3, _, hrc => cases hrc; rfl
    | 4, _, hrc => cases hrc; rfl
    | 5, _, hrc => cases hrc; rfl
    | 6, _, hrc => cases hrc; rfl
    | 7, _, hrc => cases hrc; rfl
    | 8, _, hrc => cases hrc; rfl
    | k + 9, h, _ => exact absurd h (by omega)
  have hrecv := va_recv G.2.2.2.2.2.1 hP hrc he
  rw [hrn] at hrecv
  have hb : CallB R s args (mm_rn o) n (mm_yn id) (mm_cn id) (mm_qn id).1 (mm_rf (mm_qn id).2.1) (mm_wd id) (mm_rm id) 0 0 (mm_qn id).2.2.2.1 := callB_of _ hts (mm_good_wd hid) rfl rfl rfl (hts _ hini) (hts _ (mm_w1_in w1)) ⟨hy1, hy2, hpar⟩ ⟨hfr, hlo⟩
  refine mm_after (id := id) (r' := 0) (a := (Value.ref (ad cl i) :: ((st.take (mm_qn id).2.2.2.1).reverse.map (mm_tv ad))).toArray) (rest := rest) ?_ hS hL (mm_okc hok2).2 hx
  exact va_runV (C := mm_rn cl) (As := (st.take (mm_qn id).2.2.2.1).reverse.map (mm_tv ad)) (nL := nL) ⟨G.1, G.2.1, G.2.2.1, G.2.2.2.1, hts⟩ hM ⟨hb, hts _ (mm_w1_in w2), hts _ (mm_w1_in w3)⟩ ⟨mm_blind _ _, hrecv, fun U hU hW => ⟨rfl, mm_pcU G hP U hU hW⟩⟩ rfl (by rw [List.length_map, List.length_reverse, hlen]) hL.1 (by
    show st.map (mm_tv ad) = _
    rw [mm_revmap (n := (mm_qn id).2.2.2.1), hdr]
    rfl) (lv_room (by rw [mm_ct_sum]; exact hc)) hd ⟨Nat.zero_le _, Nat.zero_le _⟩
theorem mm_row_wl {k i n n0 t : Nat} {q : Nat × Nat} {f : Nat → Int32} (hn0 : mm_all[n0]? = some (k, i)) (ha : mm_as k = some (t, n, q)) (ht : t ≠ 2) : (mm_wl ad cy μ).set n0 (ad k i, .inl (cy t, n, .inl f)) = mm_wl ad cy (mm_row μ k i f) := by
  have hq : (k, i) ∈ mm_all := List.mem_of_getElem? hn0
  have h5 := mm_set (f := fun q => (ad q.1 q.2, mm_ce ad cy μ q.1 q.2)) (g := fun q => (ad q.1 q.2, mm_ce ad cy (mm_row μ k i f) q.1 q.2)) hn0 (fun y _ hy => by rw [mm_ce_row hy])
  unfold mm_wl
  rw [← h5]
  simp only
  rw [mm_arr hq ha ht]
  have e : mm_row μ k i f k i = f := by simp [mm_row]
  rw [e]
theorem o_invokestatic {n : Nat} (G : mm_G p R s m args meth c cc nL o rt ad D cy z) (hE : mm_EOK l R ad D cy z E) (hd : decode cc pc = .ok (.invokestatic n, 3)) (h : mm_cs E o n (pc + 3) ls st μ = some x) (hx : mm_T p l e R s m args below meth c ad D cy z rt nL Q x) : mm_V p l e R s m args below meth c ad D cy z rt nL Q (pc, ls, st, μ) := by
  have hts := G.2.2.2.2.1
  rcases mm_cs_inv h with ⟨id, ⟨cl, qa, qb, qd⟩, hm, hac⟩ | ⟨t, id, ⟨cl, qa, qb, qd⟩, r, μ', hm, ht, hle, hc, hcall, rfl⟩
  · obtain ⟨k, dp, k1, i1, sp, k0, i0, st', n0, n1, q0, q1, rfl, h0, h1, g1, g2, g3, g4, g5, hc, rfl⟩ := mm_ac_inv hac
    have hck := mm_mt_ok hm
    simp only [mm_mchk, Bool.and_eq_true, decide_eq_true_eq] at hck
    obtain ⟨⟨w1, w2⟩, w3⟩ := hck
    intro H locs A hP hS hL hok
    have hoka := (mm_okc (mm_okc hok).2).2
    have hok0 := (mm_okc (mm_okc hoka).2).2
    have hq1 : (k1, i1) ∈ mm_all := (mm_okc hoka).1
    have hq0 : (k0, i0) ∈ mm_all := (mm_okc hok0).1
    obtain ⟨a0, -, hn0⟩ := mm_idx hq0 ad cy
    obtain ⟨a1, ha1, hn1⟩ := mm_idx hq1 ad cy
    have he0 := hn0 μ
    have he1 := hn1 μ
    rw [mm_arr hq0 h0 (by decide)] at he0
    rw [mm_arr hq1 h1 (by decide)] at he1
    refine va_copyi (rest := st'.map (mm_tv ad)) G.1 G.2.1 (by rw [G.2.2.1]; exact hL.1.symm) G.2.2.2.1 (hts _ (mm_w1_in w1)) (hts _ (mm_w1_in w2)) (hts _ (mm_w1_in w3)) (hts _ mm_sysini) G.2.2.2.2.2.1 hP (mm_D G.2.2.2.2.2.2.2.1) hS a0 a1 0 0 he0 he1 rfl rfl rfl g2 g3 g1 g4 g5 (fun _ _ => rfl) G.2.2.2.2.2.2.2.2.1 (by
      rw [mm_ct_sum]
      have h40 := G.2.2.2.2.2.2.2.2.2.1
      have hnf : nativeFrameWords "java/lang/System" "arraycopy" 5 + 11 ≤ 30 := by decide +kernel
      omega) hd (fun H1 locs1 hP1 _ hS1 => ?_)
    have hP2 : va_P D vwCl ((mm_wl ad cy μ).set a1 (ad k1 i1, .inl (cy 0, n1, .inl (va_cpy (μ k0 i0) (μ k1 i1) sp.toNatClampNeg dp.toNatClampNeg k.toNatClampNeg)))) H1 := hP1
    rw [mm_row_wl ha1 h1 (by decide)] at hP2
    exact hx H1 locs1 A hP2 hS1 hL (mm_okc hok0).2
  · intro H locs A hP hS hL hok
    have hok1 : ∀ v ∈ st.take (mm_qn id).2.2.2.1, mm_ok v := fun v hv => hok v (List.mem_of_mem_take hv)
    have hok2 : ∀ v ∈ st.drop (mm_qn id).2.2.2.1, mm_ok v := fun v hv => hok v (List.mem_of_mem_drop hv)
    obtain ⟨hM, hfr, hlo, hid⟩ := hE id _ μ r μ' hcall (fun v hv => hok1 v (List.mem_reverse.mp hv))
    obtain ⟨hcode, hini, hy1, hy2, hpar, -⟩ := mm_code_in id hid
    have hck := mm_mt_ok hm
    have hlen : (st.take (mm_qn id).2.2.2.1).length = (mm_qn id).2.2.2.1 := by
      rw [List.length_take]
      omega
    refine mm_after (id := id) (r' := 0) (a := ((st.take (mm_qn id).2.2.2.1).reverse.map (mm_tv ad)).toArray) (rest := st.drop (mm_qn id).2.2.2.1) ?_ hS hL hok2 hx
    have hpre : PreS s H (va_Pc ((st.take (mm_qn id).2.2.2.1).reverse.map (mm_tv ad)) (mm_B ad D cy μ)) ((st.take (mm_qn id).2.2.2.1).reverse.map (mm_tv ad)) := ⟨mm_blind _ _, fun U hU hW => ⟨rfl, mm_pcU G hP U hU hW⟩⟩
    rcases ht with rfl | rfl
    · simp only [mm_mchk, Bool.and_eq_true, decide_eq_true_eq] at hck
      obtain ⟨w1, w2⟩ := hck
      have hb : CallB R s args (mm_rn o) n (mm_yn id) (mm_cn id) (mm_qn id).1 (mm_rf (mm_qn id).2.1) (mm_wd id) (mm_rm id) 0 0 (mm_qn id).2.2.2.1 := callB_of _ hts (mm_good_wd hid) rfl rfl rfl (hts _ hini) (hts _ (mm_w1_in w1)) ⟨hy1, hy2, hpar⟩ ⟨hfr, hlo⟩
      exact va_runS (As := (st.take (mm_qn id).2.2.2.1).reverse.map (mm_tv ad)) (nL := nL) ⟨G.1, G.2.1, G.2.2.1, G.2.2.2.1, hts⟩ hM ⟨hb, hts _ (mm_w1_in w2)⟩ hpre rfl (by rw [List.length_map, List.length_reverse, hlen]) hL.1 mm_revmap (lv_room (by rw [mm_ct_sum]; exact hc)) hd ⟨Nat.zero_le _, Nat.zero_le _⟩
    · simp only [mm_mchk, Bool.and_eq_true, decide_eq_true_eq] at hck
      obtain ⟨w1, w2⟩ := hck
      have hnest : va_Nw (.methodLinkNest (mm_rn o) n (mm_yn id) "BoreSpans") s := G.2.2.2.2.2.2.1 _ (List.mem_filter.mpr ⟨List.mem_of_getElem? w1, rfl⟩)
      have hb := va_cnB (R := R) (bytes := mm_cn id) (maxL := (mm_qn id).1) (ret := mm_rf (mm_qn id).2.1) (rm := mm_rm id) (mc := 0) (ms := 0) (mm_qn id).2.2.2.1 hts (mm_good_wd hid) rfl rfl rfl hnest (hts _ hini) ⟨hy1, hy2, hpar⟩ ⟨hfr, hlo⟩
      exact va_runSN (As := (st.take (mm_qn id).2.2.2.1).reverse.map (mm_tv ad)) (nL := nL) (Ts := mm_gt) ⟨G.1, G.2.1, G.2.2.1, G.2.2.2.1, hts⟩ hM ⟨hb, hts _ (mm_w1_in w2), trivial⟩ hpre rfl (by rw [List.length_map, List.length_reverse, hlen]) hL.1 mm_revmap (lv_room (by rw [mm_ct_sum]; exact hc)) hd ⟨Nat.zero_le _, Nat.zero_le _⟩
end CALL
end
section
section ONE
variable {p : Program} {l : Launch} {e : Env} {R : Room} {s : State} {m : MethodId} {args : Array Value} {below : List Frame} {meth : Method} {c : Code} {cc : ByteArray} {nL o rt : Nat} {ad : Nat → Nat → Nat} {D : va_G} {cy : Nat → ClassId} {z : Nat} {Q : State → Prop} {pc : Nat} {ls st : List mV} {μ : mM} {x : mC ⊕ mR} {E : mE}
theorem o_ild {i d : Nat} (hrow : ∀ (H : Heap) (locs : List Loc) (A : Array Slot) (v : Int32) (rest : List Value), A[i]? = some (.val (.int v)) → W p l e R s m args below meth c H locs 0 0 Q (F0 m d A (.int v :: rest)) → W p l e R s m args below meth c H locs 0 0 Q (F0 m pc A rest)) (h : mm_ild d i ls st μ = some x) (hx : mm_T p l e R s m args below meth c ad D cy z rt nL Q x) : mm_V p l e R s m args below meth c ad D cy z rt nL Q (pc, ls, st, μ) := by
  obtain ⟨v, hv, rfl⟩ := mm_ild_inv h
  intro H locs A hP hS hL hok
  have h1 := (hL.2.2.2.2 i _ hv).resolve_left (fun ⟨j, hj⟩ => by cases hj)
  exact hrow H locs A v _ h1.2 (hx H locs A hP hS hL (mm_oki trivial hok))
theorem o_lld {i d : Nat} (hrow : ∀ (H : Heap) (locs : List Loc) (A : Array Slot) (v : Int64) (rest : List Value), A[i]? = some (.val (.long v)) → W p l e R s m args below meth c H locs 0 0 Q (F0 m d A (.long v :: rest)) → W p l e R s m args below meth c H locs 0 0 Q (F0 m pc A rest)) (h : mm_lld d i ls st μ = some x) (hx : mm_T p l e R s m args below meth c ad D cy z rt nL Q x) : mm_V p l e R s m args below meth c ad D cy z rt nL Q (pc, ls, st, μ) := by
  obtain ⟨v, hv, rfl⟩ := mm_lld_inv h
  intro H locs A hP hS hL hok
  have h1 := (hL.2.2.2.2 i _ hv).resolve_left (fun ⟨j, hj⟩ => by cases hj)
  exact hrow H locs A v _ h1.2 (hx H locs A hP hS hL (mm_oki trivial hok))
theorem o_ald {i d : Nat} (hrow : ∀ (H : Heap) (locs : List Loc) (A : Array Slot) (v : Nat) (rest : List Value), A[i]? = some (.val (.ref v)) → W p l e R s m args below meth c H locs 0 0 Q (F0 m d A (.ref v :: rest)) → W p l e R s m args below meth c H locs 0 0 Q (F0 m pc A rest)) (h : mm_ald d i ls st μ = some x) (hx : mm_T p l e R s m args below meth c ad D cy z rt nL Q x) : mm_V p l e R s m args below meth c ad D cy z rt nL Q (pc, ls, st, μ) := by
  obtain ⟨k, j, hv, hk, rfl⟩ := mm_ald_inv h
  intro H locs A hP hS hL hok
  have h1 := (hL.2.2.2.2 i _ hv).resolve_left (fun ⟨j, hj⟩ => by cases hj; exact hk rfl)
  exact hrow H locs A _ _ h1.2 (hx H locs A hP hS hL (mm_oki h1.1 hok))
theorem o_push {v : mV} {d : Nat} (hrow : ∀ (H : Heap) (locs : List Loc) (A : Array Slot) (rest : List Value), W p l e R s m args below meth c H locs 0 0 Q (F0 m d A (mm_tv ad v :: rest)) → W p l e R s m args below meth c H locs 0 0 Q (F0 m pc A rest)) (hv : mm_ok v) (h : mm_nx d ls (v :: st) μ = some x) (hx : mm_T p l e R s m args below meth c ad D cy z rt nL Q x) : mm_V p l e R s m args below meth c ad D cy z rt nL Q (pc, ls, st, μ) := by
  cases h
  intro H locs A hP hS hL hok
  exact hrow H locs A _ (hx H locs A hP hS hL (mm_oki hv hok))
theorem o_b2 {f : Int32 → Int32 → Option Int32} {d : Nat} (hrow : ∀ (H : Heap) (locs : List Loc) (A : Array Slot) (a b v : Int32) (rest : List Value), f a b = some v → W p l e R s m args below meth c H locs 0 0 Q (F0 m d A (.int v :: rest)) → W p l e R s m args below meth c H locs 0 0 Q (F0 m pc A (.int b :: .int a :: rest))) (h : mm_b2 f d ls st μ = some x) (hx : mm_T p l e R s m args below meth c ad D cy z rt nL Q x) : mm_V p l e R s m args below meth c ad D cy z rt nL Q (pc, ls, st, μ) := by
  obtain ⟨a, b, v, st', rfl, hf, rfl⟩ := mm_b2_inv h
  intro H locs A hP hS hL hok
  exact hrow H locs A a b v _ hf (hx H locs A hP hS hL (mm_oki trivial (mm_okc (mm_okc hok).2).2))
theorem o_l2 {f : Int64 → Int64 → Option mV} {d : Nat} (hrow : ∀ (H : Heap) (locs : List Loc) (A : Array Slot) (a b : Int64) (v : mV) (rest : List Value), f a b = some v → mm_ok v ∧ (W p l e R s m args below meth c H locs 0 0 Q (F0 m d A (mm_tv ad v :: rest)) → W p l e R s m args below meth c H locs 0 0 Q (F0 m pc A (.long b :: .long a :: rest)))) (h : mm_l2 f d ls st μ = some x) (hx : mm_T p l e R s m args below meth c ad D cy z rt nL Q x) : mm_V p l e R s m args below meth c ad D cy z rt nL Q (pc, ls, st, μ) := by
  obtain ⟨a, b, v, st', rfl, hf, rfl⟩ := mm_l2_inv h
  intro H locs A hP hS hL hok
  exact (hrow H locs A a b v _ hf).2 (hx H locs A hP hS hL (mm_oki (hrow H locs A a b v [] hf).1 (mm_okc (mm_okc hok).2).2))
theorem o_ist {i d : Nat} (G : mm_G p R s m args meth c cc nL o rt ad D cy z) (hrow : ∀ (H : Heap) (locs : List Loc) (A : Array Slot) (v : Int32) (lv : List (Nat × Value)) (rest : List Value), lv_has A nL lv → i < nL → (∀ A' : Array Slot, lv_has A' nL ((i, Value.int v) :: lv.filter (fun q => !(q.1 == i) && !(q.1 + 1 == i && q.2.category == 2))) → W p l e R s m args below meth c H locs 0 0 Q (F0 m d A' rest)) → W p l e R s m args below meth c H locs 0 0 Q (F0 m pc A (Value.int v :: rest))) (h : mm_ist rt d i ls st μ = some x) (hx : mm_T p l e R s m args below meth c ad D cy z rt nL Q x) : mm_V p l e R s m args below meth c ad D cy z rt nL Q (pc, ls, st, μ) := by
  obtain ⟨v, st', rfl, hi, h3, rfl⟩ := mm_ist_inv h
  intro H locs A hP hS hL hok
  exact hrow H locs A v (mm_lv ad ls) _ (mm_L_has hL) (by rw [← hL.2.2.1]; exact hi) (fun A' hA' => hx H locs A' hP hS (mm_L_set hL hi h3 hA') (mm_okc hok).2)
theorem o_br {b : Bool} {off : Int} {st' : List mV} {top : List Value} (htop : st.map (mm_tv ad) = top ++ st'.map (mm_tv ad)) (hrow : ∀ (H : Heap) (locs : List Loc) (A : Array Slot) (rest : List Value) (tgt : Nat), (pc : Int) + off = (tgt : Int) → (b = true → W p l e R s m args below meth c H locs 0 0 Q (F0 m tgt A rest)) → (b = false → W p l e R s m args below meth c H locs 0 0 Q (F0 m (pc + 3) A rest)) → W p l e R s m args below meth c H locs 0 0 Q (F0 m pc A (top ++ rest))) (hsub : ∀ v ∈ st', v ∈ st) (h : mm_br b pc off ls st' μ = some x) (hx : mm_T p l e R s m args below meth c ad D cy z rt nL Q x) : mm_V p l e R s m args below meth c ad D cy z rt nL Q (pc, ls, st, μ) := by
  intro H locs A hP hS hL hok
  show W p l e R s m args below meth c H locs 0 0 Q (F0 m pc A (st.map (mm_tv ad)))
  rw [htop]
  obtain ⟨tgt, ht, hc⟩ := mm_br_inv h
  rcases hc with ⟨hb, rfl⟩ | ⟨hb, rfl⟩
  · exact hrow H locs A _ tgt ht (fun _ => hx H locs A hP hS hL (fun v hv => hok v (hsub v hv))) (fun h0 => by rw [hb] at h0; cases h0)
  · exact hrow H locs A _ tgt ht (fun h0 => by rw [hb] at h0; cases h0) (fun _ => hx H locs A hP hS hL (fun v hv => hok v (hsub v hv)))
/-- a step of the small machine is a step of the machine -/
theorem mm_one (G : mm_G p R s m args meth c cc nL o rt ad D cy z) (hE : mm_EOK l R ad D cy z E) {i : mI} {len : Nat} (hd : decode cc pc = .ok (i, len)) (h : mm_st E o rt pc ls st μ i len = some x) (hx : mm_T p l e R s m args below meth c ad D cy z rt nL Q x) : mm_V p l e R s m args below meth c ad D cy z rt nL Q (pc, ls, st, μ) := by
  have hts := G.2.2.2.2.1
  have hown := G.2.2.2.1
  cases i with
  | iconst n =>
    have h2 := mm_ln_inv (show mm_ln len 1 (mm_ps (pc + 1) ls (.inl (Int32.ofInt n)) st μ) = some x from h)
    clear h
    obtain ⟨rfl, h⟩ := h2
    exact o_push (v := .inl (Int32.ofInt n)) (d := pc + 1) (fun H locs A rest k => lv_iconst G.1 G.2.1 hd rfl k) trivial h hx
  | bipush n =>
    have h2 := mm_ln_inv (show mm_ln len 2 (mm_ps (pc + 2) ls (.inl (Int8.ofInt n).toInt32) st μ) = some x from h)
    clear h
    obtain ⟨rfl, h⟩ := h2
    exact o_push (v := .inl (Int8.ofInt n).toInt32) (d := pc + 2) (fun H locs A rest k => lv_bipush G.1 G.2.1 hd rfl k) trivial h hx
  | sipush n =>
    have h2 := mm_ln_inv (show mm_ln len 3 (mm_ps (pc + 3) ls (.inl (Int16.ofInt n).toInt32) st μ) = some x from h)
    clear h
    obtain ⟨rfl, h⟩ := h2
    exact o_push (v := .inl (Int16.ofInt n).toInt32) (d := pc + 3) (fun H locs A rest k => lv_sipush G.1 G.2.1 hd rfl k) trivial h hx
  | lconst n =>
    have h2 := mm_ln_inv (show mm_ln len 1 (mm_ps (pc + 1) ls (.inr (.inr (Int64.ofNat (n : Nat)))) st μ) = some x from h)
    clear h
    obtain ⟨rfl, h⟩ := h2
    exact o_push (v := .inr (.inr (Int64.ofNat (n : Nat)))) (d := pc + 1) (fun H locs A rest k => lv_lconst G.1 G.2.1 hd rfl k) trivial h hx
  | ldc n =>
    have h2 := mm_ln_inv (show mm_ln len 2 (mm_li o n (pc + 2) ls st μ) = some x from h)
    clear h
    obtain ⟨rfl, h⟩ := h2
    unfold mm_li at h
    split at h
    · rename_i v _ hv
      exact o_push (v := .inl v) (d := pc + 2) (fun H locs A rest k => lv_ldc G.1 G.2.1 hown (hts _ (mm_kt_ok hv)) hd k) trivial h hx
    · cases h
  | ldc_w n =>
    have h2 := mm_ln_inv (show mm_ln len 3 (mm_li o n (pc + 3) ls st μ) = some x from h)
    clear h
    obtain ⟨rfl, h⟩ := h2
    unfold mm_li at h
    split at h
    · rename_i v _ hv
      exact o_push (v := .inl v) (d := pc + 3) (fun H locs A rest k => lv_ldcw G.1 G.2.1 hown (hts _ (mm_kt_ok hv)) hd k) trivial h hx
    · cases h
  | ldc2_w n =>
    have h2 := mm_ln_inv (show mm_ln len 3 (mm_ll2 o n (pc + 3) ls st μ) = some x from h)
    clear h
    obtain ⟨rfl, h⟩ := h2
    unfold mm_ll2 at h
    split at h
    · rename_i v _ hv
      exact o_push (v := .inr (.inr v)) (d := pc + 3) (fun H locs A rest k => lv_ldc2 G.1 G.2.1 hown (hts _ (mm_lt_ok hv)) hd k) trivial h hx
    · cases h
  | iload_n n =>
    have h2 := mm_ln_inv (show mm_ln len 1 (mm_ild (pc + 1) n ls st μ) = some x from h)
    clear h
    obtain ⟨rfl, h⟩ := h2
    exact o_ild (fun H locs A v rest hv k => lv_iload_n G.1 G.2.1 hd rfl hv k) h hx
  | iload n =>
    have h2 := mm_ln_inv (show mm_ln len 2 (mm_ild (pc + 2) n ls st μ) = some x from h)
    clear h
    obtain ⟨rfl, h⟩ := h2
    exact o_ild (fun H locs A v rest hv k => lv_iload G.1 G.2.1 hd hv k) h hx
  | lload_n n =>
    have h2 := mm_ln_inv (show mm_ln len 1 (mm_lld (pc + 1) n ls st μ) = some x from h)
    clear h
    obtain ⟨rfl, h⟩ := h2
    exact o_lld (fun H locs A v rest hv k => lv_lload_n G.1 G.2.1 hd rfl hv k) h hx
  | lload n =>
    have h2 := mm_ln_inv (show mm_ln len 2 (mm_lld (pc + 2) n ls st μ) = some x from h)
    clear h
    obtain ⟨rfl, h⟩ := h2
    exact o_lld (fun H locs A v rest hv k => lv_lload G.1 G.2.1 hd hv k) h hx
  | aload_n n =>
    have h2 := mm_ln_inv (show mm_ln len 1 (mm_ald (pc + 1) n ls st μ) = some x from h)
    clear h
    obtain ⟨rfl, h⟩ := h2
    exact o_ald (fun H locs A v rest hv k => lv_aload_n G.1 G.2.1 hd rfl hv k) h hx
  | istore_n n =>
    have h2 := mm_ln_inv (show mm_ln len 1 (mm_ist rt (pc + 1) n ls st μ) = some x from h)
    clear h
    obtain ⟨rfl, h⟩ := h2
    exact o_ist G (fun H locs A v lv rest hl hn k => lv_istore_n G.1 G.2.1 hd rfl hl hn rfl k) h hx
  | istore n =>
    have h2 := mm_ln_inv (show mm_ln len 2 (mm_ist rt (pc + 2) n ls st μ) = some x from h)
    clear h
    obtain ⟨rfl, h⟩ := h2
    exact o_ist G (fun H locs A v lv rest hl hn k => lv_istore G.1 G.2.1 hd hl hn rfl k) h hx
  | iinc k n =>
    have h2 := mm_ln_inv (show mm_ln len 3 (mm_inc rt (pc + 3) k n ls st μ) = some x from h)
    clear h
    obtain ⟨rfl, h⟩ := h2
    obtain ⟨v, hv, h3, rfl⟩ := mm_inc_inv h
    intro H locs A hP hS hL hok
    have hi : k < ls.length := (List.getElem?_eq_some_iff.mp hv).1
    obtain ⟨a, ha⟩ := List.getElem?_of_mem (mm_lv_some (ad := ad) hv (fun ⟨j, hj⟩ => by cases hj))
    exact lv_iinc G.1 G.2.1 hd (mm_L_has hL) ha rfl (by rw [← hL.2.2.1]; exact hi) rfl (fun A' hA' => hx H locs A' hP hS (mm_L_set hL hi h3 hA') hok)
  | iadd =>
    have h2 := mm_ln_inv (show mm_ln len 1 (mm_b2 (fun a b => some (a + b)) (pc + 1) ls st μ) = some x from h)
    clear h
    obtain ⟨rfl, h⟩ := h2
    exact o_b2 (fun H locs A a b v rest hf k => by cases hf; exact lv_iadd G.1 G.2.1 hd k) h hx
  | isub =>
    have h2 := mm_ln_inv (show mm_ln len 1 (mm_b2 (fun a b => some (a - b)) (pc + 1) ls st μ) = some x from h)
    clear h
    obtain ⟨rfl, h⟩ := h2
    exact o_b2 (fun H locs A a b v rest hf k => by cases hf; exact lv_isub G.1 G.2.1 hd k) h hx
  | imul =>
    have h2 := mm_ln_inv (show mm_ln len 1 (mm_b2 (fun a b => some (a * b)) (pc + 1) ls st μ) = some x from h)
    clear h
    obtain ⟨rfl, h⟩ := h2
    exact o_b2 (fun H locs A a b v rest hf k => by cases hf; exact lv_imul G.1 G.2.1 hd k) h hx
  | ixor =>
    have h2 := mm_ln_inv (show mm_ln len 1 (mm_b2 (fun a b => some (a ^^^ b)) (pc + 1) ls st μ) = some x from h)
    clear h
    obtain ⟨rfl, h⟩ := h2
    exact o_b2 (fun H locs A a b v rest hf k => by cases hf; exact lv_ixor G.1 G.2.1 hd k) h hx
  | idiv =>
    have h2 := mm_ln_inv (show mm_ln len 1 (mm_b2 (fun a b => if b = 0 then none else some (a / b)) (pc + 1) ls st μ) = some x from h)
    clear h
    obtain ⟨rfl, h⟩ := h2
    exact o_b2 (fun H locs A a b v rest hf k => by
      by_cases hb : b = 0
      · simp [hb] at hf
      · simp [hb] at hf; subst hf; exact lv_idiv G.1 G.2.1 hd hb k) h hx
  | irem =>
    have h2 := mm_ln_inv (show mm_ln len 1 (mm_b2 (fun a b => if b = 0 then none else some (a - a / b * b)) (pc + 1) ls st μ) = some x from h)
    clear h
    obtain ⟨rfl, h⟩ := h2
    exact o_b2 (fun H locs A a b v rest hf k => by
      by_cases hb : b = 0
      · simp [hb] at hf
      · rw [if_neg hb] at hf; cases hf; exact lv_irem G.1 G.2.1 hd hb k) h hx
  | ladd =>
    have h2 := mm_ln_inv (show mm_ln len 1 (mm_l2 (fun a b => some (.inr (.inr (a + b)))) (pc + 1) ls st μ) = some x from h)
    clear h
    obtain ⟨rfl, h⟩ := h2
    exact o_l2 (fun H locs A a b v rest hf => by cases hf; exact ⟨trivial, fun k => lv_ladd G.1 G.2.1 hd k⟩) h hx
  | lmul =>
    have h2 := mm_ln_inv (show mm_ln len 1 (mm_l2 (fun a b => some (.inr (.inr (a * b)))) (pc + 1) ls st μ) = some x from h)
    clear h
    obtain ⟨rfl, h⟩ := h2
    exact o_l2 (fun H locs A a b v rest hf => by cases hf; exact ⟨trivial, fun k => lv_lmul G.1 G.2.1 hd k⟩) h hx
  | lrem =>
    have h2 := mm_ln_inv (show mm_ln len 1 (mm_l2 (fun a b => if b = 0 then none else some (.inr (.inr (a - a / b * b)))) (pc + 1) ls st μ) = some x from h)
    clear h
    obtain ⟨rfl, h⟩ := h2
    exact o_l2 (fun H locs A a b v rest hf => by
      by_cases hb : b = 0
      · simp [hb] at hf
      · rw [if_neg hb] at hf; cases hf; exact ⟨trivial, fun k => lv_lrem G.1 G.2.1 hd hb k⟩) h hx
  | lcmp =>
    have h2 := mm_ln_inv (show mm_ln len 1 (mm_l2 (fun a b => some (.inl (lg_cmp a b))) (pc + 1) ls st μ) = some x from h)
    clear h
    obtain ⟨rfl, h⟩ := h2
    exact o_l2 (fun H locs A a b v rest hf => by cases hf; exact ⟨trivial, fun k => W.lcmp G.1 G.2.1 hd k⟩) h hx
  | i2l =>
    have h2 := mm_ln_inv (show mm_ln len 1 (mm_i2l (pc + 1) ls st μ) = some x from h)
    clear h
    obtain ⟨rfl, h⟩ := h2
    unfold mm_i2l at h
    split at h
    · cases h
      intro H locs A hP hS hL hok
      exact lv_i2l G.1 G.2.1 hd rfl (hx H locs A hP hS hL (mm_oki trivial (mm_okc hok).2))
    · cases h
  | l2i =>
    have h2 := mm_ln_inv (show mm_ln len 1 (mm_l2i (pc + 1) ls st μ) = some x from h)
    clear h
    obtain ⟨rfl, h⟩ := h2
    unfold mm_l2i at h
    split at h
    · cases h
      intro H locs A hP hS hL hok
      exact lv_l2i G.1 G.2.1 hd rfl (hx H locs A hP hS hL (mm_oki trivial (mm_okc hok).2))
    · cases h
  | dup =>
    have h2 := mm_ln_inv (show mm_ln len 1 (mm_dup (pc + 1) ls st μ) = some x from h)
    clear h
    obtain ⟨rfl, h⟩ := h2
    unfold mm_dup at h
    split at h
    · split at h
      · rename_i hc
        cases h
        intro H locs A hP hS hL hok
        exact lv_dup G.1 G.2.1 hd (by rw [mm_tv_cat]; exact hc) (hx H locs A hP hS hL (mm_oki (mm_okc hok).1 hok))
      · cases h
    · cases h
  | pop =>
    have h2 := mm_ln_inv (show mm_ln len 1 (mm_pop (pc + 1) ls st μ) = some x from h)
    clear h
    obtain ⟨rfl, h⟩ := h2
    unfold mm_pop at h
    split at h
    · split at h
      · rename_i hc
        cases h
        intro H locs A hP hS hL hok
        exact lv_pop G.1 G.2.1 hd (by rw [mm_tv_cat]; exact hc) (hx H locs A hP hS hL (mm_okc hok).2)
      · cases h
    · cases h
  | dup_x1 =>
    have h2 := mm_ln_inv (show mm_ln len 1 (mm_dx1 (pc + 1) ls st μ) = some x from h)
    clear h
    obtain ⟨rfl, h⟩ := h2
    unfold mm_dx1 at h
    split at h
    · split at h
      · rename_i hc
        cases h
        intro H locs A hP hS hL hok
        exact lv_dup_x1 G.1 G.2.1 hd (by rw [mm_tv_cat]; exact hc.1) (by rw [mm_tv_cat]; exact hc.2) (hx H locs A hP hS hL (mm_oki (mm_okc hok).1 (mm_oki (mm_okc (mm_okc hok).2).1 (mm_oki (mm_okc hok).1 (mm_okc (mm_okc hok).2).2))))
      · cases h
    · cases h
  | dup2 =>
    have h2 := mm_ln_inv (show mm_ln len 1 (mm_dp2 (pc + 1) ls st μ) = some x from h)
    clear h
    obtain ⟨rfl, h⟩ := h2
    unfold mm_dp2 at h
    split at h
    · split at h
      · rename_i hc
        cases h
        intro H locs A hP hS hL hok
        exact lv_dup2_11 G.1 G.2.1 hd (by rw [mm_tv_cat]; exact hc.1) (by rw [mm_tv_cat]; exact hc.2) (hx H locs A hP hS hL (mm_oki (mm_okc hok).1 (mm_oki (mm_okc (mm_okc hok).2).1 hok)))
      · cases h
    · cases h
  | ifCond cd off =>
    have h2 := mm_ln_inv (show mm_ln len 3 (mm_if cd pc off ls st μ) = some x from h)
    clear h
    obtain ⟨rfl, h⟩ := h2
    unfold mm_if at h
    split at h
    · rename_i v st'
      refine o_br (top := [.int v]) rfl (fun H locs A rest => ?_) (fun w hw => List.mem_cons_of_mem _ hw) h hx
      cases cd with
      | eq => exact fun tgt ht kt kf => lv_if_eq G.1 G.2.1 hd ht (fun q => kt (decide_eq_true q)) (fun q => kf (decide_eq_false q))
      | ne => exact fun tgt ht kt kf => lv_if_ne G.1 G.2.1 hd ht (fun q => kt (decide_eq_true q)) (fun q => kf (decide_eq_false (fun h => h q)))
      | lt => exact fun tgt ht kt kf => lv_if_lt G.1 G.2.1 hd ht (fun q => kt (decide_eq_true q)) (fun q => kf (decide_eq_false q))
      | ge => exact fun tgt ht kt kf => lv_if_ge G.1 G.2.1 hd ht (fun q => kt (decide_eq_true q)) (fun q => kf (decide_eq_false q))
      | gt => exact fun tgt ht kt kf => lv_if_gt G.1 G.2.1 hd ht (fun q => kt (decide_eq_true q)) (fun q => kf (decide_eq_false q))
      | le => exact fun tgt ht kt kf => lv_if_le G.1 G.2.1 hd ht (fun q => kt (decide_eq_true q)) (fun q => kf (decide_eq_false q))
    · cases h
  | if_icmp cd off =>
    have h2 := mm_ln_inv (show mm_ln len 3 (mm_ic cd pc off ls st μ) = some x from h)
    clear h
    obtain ⟨rfl, h⟩ := h2
    unfold mm_ic at h
    split at h
    · rename_i w v st'
      refine o_br (top := [.int w, .int v]) rfl (fun H locs A rest => ?_) (fun w hw => List.mem_cons_of_mem _ (List.mem_cons_of_mem _ hw)) h hx
      cases cd with
      | eq => exact fun tgt ht kt kf => lv_icmp_eq G.1 G.2.1 hd ht (fun q => kt (decide_eq_true q)) (fun q => kf (decide_eq_false q))
      | ne => exact fun tgt ht kt kf => lv_icmp_ne G.1 G.2.1 hd ht (fun q => kt (decide_eq_true q)) (fun q => kf (decide_eq_false (fun h => h q)))
      | lt => exact fun tgt ht kt kf => lv_icmp_lt G.1 G.2.1 hd ht (fun q => kt (decide_eq_true q)) (fun q => kf (decide_eq_false q))
      | ge => exact fun tgt ht kt kf => lv_icmp_ge G.1 G.2.1 hd ht (fun q => kt (decide_eq_true q)) (fun q => kf (decide_eq_false q))
      | gt => exact fun tgt ht kt kf => lv_icmp_gt G.1 G.2.1 hd ht (fun q => kt (decide_eq_true q)) (fun q => kf (decide_eq_false q))
      | le => exact fun tgt ht kt kf => lv_icmp_le G.1 G.2.1 hd ht (fun q => kt (decide_eq_true q)) (fun q => kf (decide_eq_false q))
    · cases h
  | goto off =>
    have h2 := mm_ln_inv (show mm_ln len 3 (mm_jp pc off ls st μ) = some x from h)
    clear h
    obtain ⟨rfl, h⟩ := h2
    obtain ⟨tgt, ht, rfl⟩ := mm_jp_inv h
    intro H locs A hP hS hL hok
    exact lv_goto G.1 G.2.1 hd ht (hx H locs A hP hS hL hok)
  | tableswitch d lo hi offs =>
    have h : mm_sw pc d lo hi offs ls st μ = some x := h
    unfold mm_sw at h
    split at h
    · split at h
      · rename_i hc
        obtain ⟨tgt, ht, rfl⟩ := mm_jp_inv h
        intro H locs A hP hS hL hok
        exact lv_tableOut G.1 G.2.1 hd hc ht (hx H locs A hP hS hL (mm_okc hok).2)
      · rename_i hc
        split at h
        · rename_i off hoff
          obtain ⟨tgt, ht, rfl⟩ := mm_jp_inv h
          intro H locs A hP hS hL hok
          exact lv_tableIn G.1 G.2.1 hd (fun q => hc (Or.inl q)) (fun q => hc (Or.inr q)) hoff ht (hx H locs A hP hS hL (mm_okc hok).2)
        · cases h
    · cases h
  | getfield n =>
    have h2 := mm_ln_inv (show mm_ln len 3 (mm_gf o n (pc + 3) ls st μ) = some x from h)
    clear h
    obtain ⟨rfl, h⟩ := h2
    exact o_getfield G hd h hx
  | putfield n =>
    have h2 := mm_ln_inv (show mm_ln len 3 (mm_pf o n (pc + 3) ls st μ) = some x from h)
    clear h
    obtain ⟨rfl, h⟩ := h2
    exact o_putfield G hd h hx
  | iaload =>
    have h2 := mm_ln_inv (show mm_ln len 1 (mm_al 0 (pc + 1) ls st μ) = some x from h)
    clear h
    obtain ⟨rfl, h⟩ := h2
    exact o_iaload G hd h hx
  | baload =>
    have h2 := mm_ln_inv (show mm_ln len 1 (mm_al 1 (pc + 1) ls st μ) = some x from h)
    clear h
    obtain ⟨rfl, h⟩ := h2
    exact o_baload G hd h hx
  | iastore =>
    have h2 := mm_ln_inv (show mm_ln len 1 (mm_sl 0 (pc + 1) ls st μ) = some x from h)
    clear h
    obtain ⟨rfl, h⟩ := h2
    exact o_iastore G hd h hx
  | bastore =>
    have h2 := mm_ln_inv (show mm_ln len 1 (mm_sl 1 (pc + 1) ls st μ) = some x from h)
    clear h
    obtain ⟨rfl, h⟩ := h2
    exact o_bastore G hd h hx
  | aaload =>
    have h2 := mm_ln_inv (show mm_ln len 1 (mm_aa (pc + 1) ls st μ) = some x from h)
    clear h
    obtain ⟨rfl, h⟩ := h2
    exact o_aaload G hd h hx
  | invokevirtual n =>
    have h2 := mm_ln_inv (show mm_ln len 3 (mm_cv E o n (pc + 3) ls st μ) = some x from h)
    clear h
    obtain ⟨rfl, h⟩ := h2
    exact o_invokevirtual G hE hd h hx
  | invokestatic n =>
    have h2 := mm_ln_inv (show mm_ln len 3 (mm_cs E o n (pc + 3) ls st μ) = some x from h)
    clear h
    obtain ⟨rfl, h⟩ := h2
    exact o_invokestatic G hE hd h hx
  | ireturn =>
    have h2 := mm_ln_inv (show mm_ln len 1 (mm_ir rt st μ) = some x from h)
    clear h
    obtain ⟨rfl, h⟩ := h2
    unfold mm_ir at h
    split at h
    · rename_i v
      split at h
      · rename_i hr
        cases h
        have hx : Q = MQ below (mm_Q ad D cy z rt v μ) args s 0 0 (fun q => z ≤ q) := hx
        subst hx
        have h0 : ¬ rt = 0 := by omega
        intro H locs A hP hS hL hok
        have hq : ∀ t : State, t.heap = H → s.WarmedH t.vm → mm_Q ad D cy z rt v μ args s (.returned (some (.int v))) t := by
          intro t ht _
          unfold mm_Q
          rw [if_neg h0]
          exact ⟨⟨v, (), rfl, rfl, by show va_P D vwCl (mm_wl ad cy μ) t.heap; rw [ht]; exact hP⟩, hS.F ht⟩
        have hret := G.2.2.2.2.2.2.2.2.2.2.1
        rcases hr with h1 | ⟨h23, hv⟩
        · subst h1
          exact W.iret (v := v) G.1 G.2.1 hret hq hS.2.2 hd G.2.2.2.2.2.2.2.2.2.2.2
        · have hret2 : meth.sig.returnType = some .boolean := by
            rcases h23 with rfl | rfl <;> exact hret
          exact W.zret (v := v) G.1 G.2.1 hret2 (by rcases hv with rfl | rfl <;> decide) hq hS.2.2 hd G.2.2.2.2.2.2.2.2.2.2.2
      · cases h
    · cases h
  | return_ =>
    have h2 := mm_ln_inv (show mm_ln len 1 (mm_vr rt st μ) = some x from h)
    clear h
    obtain ⟨rfl, h⟩ := h2
    unfold mm_vr at h
    split at h
    · split at h
      · rename_i hr
        cases h
        have hx : Q = MQ below (mm_Q ad D cy z rt 0 μ) args s 0 0 (fun q => z ≤ q) := hx
        subst hx
        subst hr
        intro H locs A hP hS hL hok
        have hq : ∀ t : State, t.heap = H → s.WarmedH t.vm → mm_Q ad D cy z 0 0 μ args s (.returned none) t := by
          intro t ht _
          unfold mm_Q
          rw [if_pos rfl]
          exact ⟨⟨(), rfl, trivial, by show va_P D vwCl (mm_wl ad cy μ) t.heap; rw [ht]; exact hP⟩, hS.F ht⟩
        exact W.vret G.1 G.2.1 G.2.2.2.2.2.2.2.2.2.2.1 hq hS.2.2 hd G.2.2.2.2.2.2.2.2.2.2.2
      · cases h
    · cases h
  | _ => exact nomatch (show (none : mS) = some x from h)
theorem mm_sound (G : mm_G p R s m args meth c cc nL o rt ad D cy z) (hE : mm_EOK l R ad D cy z E) {r : Int32} {μ' : mM} : ∀ (n : Nat) (x : mC), mm_it E o rt cc n x = some (r, μ') → mm_V p l e R s m args below meth c ad D cy z rt nL (MQ below (mm_Q ad D cy z rt r μ') args s 0 0 (fun q => z ≤ q)) x
  | 0, _, h => by simp [mm_it] at h
  | n + 1, (pc, ls, st, μ), h => by
    rw [mm_it] at h
    cases hs : mm_sp E o rt cc (pc, ls, st, μ) with
    | none => rw [hs] at h; cases h
    | some q =>
      rw [hs] at h
      unfold mm_sp at hs
      cases hd : decode cc pc with
      | error _ => simp only [hd] at hs; cases hs
      | ok il =>
        obtain ⟨i, len⟩ := il
        simp only [hd] at hs
        refine mm_one G hE hd hs ?_
        cases q with
        | inl c' => exact mm_sound G hE n c' h
        | inr q => cases h; rfl
end ONE
theorem mm_ofW {l : Launch} {y : MethodName} {ws ws' : List Cond} {rm : Room} {Pc : Array Value → State → Prop} {Qc : Array Value → State → Outcome → State → Prop} {mc ms : Nat} {free : Addr → Prop} {cc : ByteArray} {maxL : Nat} {ret : Option FieldType}
    (hy : plainFor y = true) (hw : ws = Cond.code y cc maxL ret :: ws')
    (body : ∀ p e s m args below meth c s₁, BodyLoose p l y (headSpec ws rm) cc maxL ret e s m args below meth c s₁ → c.maxLocals = maxL → Pc args s →
      W p l e (headSpec ws rm).room s m args below meth c s.heap [] 0 0 (MQ below Qc args s mc ms free) (entryFrame m args maxL)) : Met l y ws rm Pc Qc mc ms free := by
  refine MetFree.of_bodySF (code := cc) (maxLocals := maxL) (ret := ret) hy ?_ ?_
  · intro args s m h hn
    obtain ⟨meth, c, h1, h2, h3, h4, h5, h6, -, -⟩ := Cond.code_spec hn (atoms_spec (ws := ws) h _ (by rw [hw]; exact List.mem_cons_self))
    exact ⟨meth, c, h1, h2, h3, h4, h5, h6⟩
  · intro p e s m args below meth c s₁ B hml hP _
    have hh0 : s₁.heap = s.heap := by rw [B.state]; rfl
    obtain ⟨t, a1, o, b1, b2, b3⟩ := body p e s m args below meth c s₁ B hml hP s₁ hh0 (Stand.of_body B)
    exact ⟨t, o, a1, b1, b2, ⟨b3.1, b3.2⟩⟩
theorem mm_xp_len (ad : Nat → Nat → Nat) : ∀ as : List mV, (lg_sl (as.map (mm_tv ad))).length = (mm_xp as).length
  | [] => rfl
  | .inl x :: as => by
    have h := mm_xp_len ad as
    simp only [lg_sl, List.map_cons, List.flatMap_cons, List.length_append] at h ⊢
    rw [h]
    simp [mm_xp, mm_tv, Value.category]
    omega
  | .inr (.inl x) :: as => by
    have h := mm_xp_len ad as
    simp only [lg_sl, List.map_cons, List.flatMap_cons, List.length_append] at h ⊢
    rw [h]
    simp [mm_xp, mm_tv, Value.category]
    omega
  | .inr (.inr x) :: as => by
    have h := mm_xp_len ad as
    simp only [lg_sl, List.map_cons, List.flatMap_cons, List.length_append] at h ⊢
    rw [h]
    simp [mm_xp, mm_tv, Value.category]
    omega
theorem mm_xp_at (ad : Nat → Nat → Nat) : ∀ (as : List mV) (k i : Nat) (v : mV), (mm_xp as)[i]? = some v → (∃ j, v = .inr (.inl (99, j))) ∨ (v ∈ as ∧ (k + i, mm_tv ad v) ∈ lv_args k (as.map (mm_tv ad)))
  | [], _, i, v, h => by simp [mm_xp] at h
  | .inl x :: as, k, i, v, h => by
    cases i with
    | zero => cases h; exact Or.inr ⟨List.mem_cons_self, List.mem_cons_self⟩
    | succ i =>
      rcases mm_xp_at ad as (k + 1) i v h with h1 | ⟨h1, h2⟩
      · exact Or.inl h1
      · exact Or.inr ⟨List.mem_cons_of_mem _ h1, List.mem_cons_of_mem _ (by rw [show k + (i + 1) = k + 1 + i by omega]; exact h2)⟩
  | .inr (.inl x) :: as, k, i, v, h => by
    cases i with
    | zero => cases h; exact Or.inr ⟨List.mem_cons_self, List.mem_cons_self⟩
    | succ i =>
      rcases mm_xp_at ad as (k + 1) i v h with h1 | ⟨h1, h2⟩
      · exact Or.inl h1
      · exact Or.inr ⟨List.mem_cons_of_mem _ h1, List.mem_cons_of_mem _ (by rw [show k + (i + 1) = k + 1 + i by omega]; exact h2)⟩
  | .inr (.inr x) :: as, k, i, v, h => by
    match i, h with
    | 0, h => cases h; exact Or.inr ⟨List.mem_cons_self, List.mem_cons_self⟩
    | 1, h => cases h; exact Or.inl ⟨0, rfl⟩
    | i + 2, h =>
      rcases mm_xp_at ad as (k + 2) i v h with h1 | ⟨h1, h2⟩
      · exact Or.inl h1
      · exact Or.inr ⟨List.mem_cons_of_mem _ h1, List.mem_cons_of_mem _ (by rw [show k + (i + 2) = k + 2 + i by omega]; exact h2)⟩
theorem mm_xp_c1 : ∀ as : List mV, mm_c1s as = true → ∀ v ∈ mm_xp as, mm_cat v = 1
  | [], _, v, h => by simp [mm_xp] at h
  | w :: as, hc, v, h => by
    simp only [mm_c1s, Bool.and_eq_true, beq_iff_eq] at hc
    have e : mm_xp (w :: as) = w :: mm_xp as := by
      rcases w with x | x | x
      · rfl
      · rfl
      · simp [mm_cat] at hc
    rw [e] at h
    rcases List.mem_cons.mp h with rfl | h
    · exact hc.1
    · exact mm_xp_c1 as hc.2 v h
theorem mm_en_L {ad : Nat → Nat → Nat} {rt nL : Nat} {as : List mV} (hl : (mm_xp as).length ≤ nL) (hc : rt = 3 ∨ mm_c1s as = true) (hok : ∀ v ∈ as, mm_ok v) :
    mm_L ad rt nL ((lg_sl (as.map (mm_tv ad)) ++ List.replicate (nL - (lg_sl (as.map (mm_tv ad))).length) Slot.unset).toArray) (mm_en nL as) := by
  have hh := lv_entry (as.map (mm_tv ad)) (n := nL) (by rw [mm_xp_len]; exact hl)
  refine ⟨hh.1, hh.2.1, by simp [mm_en]; omega, fun h3 v hv => ?_, fun i v hv => ?_⟩
  · rcases List.mem_append.mp hv with h | h
    · exact mm_xp_c1 as (hc.resolve_left h3) v h
    · rw [(List.mem_replicate.mp h).2]; rfl
  · unfold mm_en at hv
    by_cases hi : i < (mm_xp as).length
    · rw [List.getElem?_append_left hi] at hv
      rcases mm_xp_at ad as 0 i v hv with h1 | ⟨h1, h2⟩
      · exact Or.inl h1
      · rw [Nat.zero_add] at h2
        exact Or.inr ⟨hok v h1, hh.2.2 _ h2⟩
    · rw [List.getElem?_append_right (by omega)] at hv
      have := List.mem_of_getElem? hv
      rw [(List.mem_replicate.mp this).2]
      exact Or.inl ⟨0, rfl⟩
/-- a method's function is its method -/
theorem mm_fn_ok (l : Launch) (id o : Nat) (E : mE) (hid : id < 143) (hrn : mm_rn o = (mm_yn id).cls) (hh : 1 ≤ (mm_qn id).2.2.1)
    (hE : ∀ (k : Nat) (as : List mV) (μ : mM) (q : mR), E k as μ = some q → mm_OK l k (E k) ∧ (mm_qn k).2.2.1 + 1 ≤ (mm_qn id).2.2.1 ∧ 8 + ((mm_qn k).1 + 11) + 40 * (mm_qn k).2.2.1 ≤ 40 * (mm_qn id).2.2.1 ∧ k < 143) :
    mm_OK l id (mm_fn E o (mm_qn id).2.1 (mm_qn id).1 (mm_cn id)) := by
  intro ad D cy z as μ r μ' hf hok had
  unfold mm_fn at hf
  split at hf
  · rename_i hc
    obtain ⟨n, hn⟩ := mm_run_it.mp hf
    refine mm_ofW (cc := mm_cn id) (maxL := (mm_qn id).1) (ret := mm_rf (mm_qn id).2.1) (mm_code_in id hid).2.2.2.2.2 rfl ?_
    intro p e s m args below meth c s₁ B hml hv
    obtain ⟨rfl, hK, hN, hP⟩ := hv
    have hts := atoms_spec (ws := mm_wd id) B.pre
    have hown : s.vm.findClass (mm_rn o) = some m.cls := by rw [hrn]; exact findClass_of_methodNamed B.named
    have G : mm_G p (mm_rm id) s m ((as.map (mm_tv ad)).toArray) meth c (mm_cn id) (mm_qn id).1 o (mm_qn id).2.1 ad D cy z :=
      ⟨B.exec, B.bytes, hml, hown, fun w hw => hts w (List.mem_cons_of_mem _ hw), hK, hN, had, hh, by show 40 ≤ 40 * _; omega, B.returns, B.notSynchronized⟩
    have hE2 : mm_EOK l (mm_rm id) ad D cy z E := by
      intro k as2 μ2 r2 μ2' hk hok2
      obtain ⟨h1, h2, h3, h4⟩ := hE k as2 μ2 _ hk
      exact ⟨h1 ad D cy z as2 μ2 r2 μ2' hk hok2 had, h2, h3, h4⟩
    rw [lg_entry_eq]
    exact mm_sound G hE2 n _ hn s.heap [] _ hP va_S.rf (mm_en_L hc.1 hc.2 hok) (fun v hv => by cases hv)
  · cases hf
end
