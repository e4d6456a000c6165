section
/-- a private method of a class that the tables say can be made, by its rows of tables_1 -/
def lw_okq (q : MethodName × Nat) : Prop := (q.1.cls ≠ "java/lang/invoke/MethodHandle" ∧ q.1.cls ≠ "java/lang/invoke/VarHandle") ∧ Cond.instantiable q.1.cls q.2 ∈ tables_1 ∧ Cond.privateMethod q.1 ∈ tables_1 ∧ Cond.instanceMethod q.1 ∈ tables_1
theorem lw_p0 : lw_okq (⟨"StackRuns", "isSet", "(I)Z"⟩, 7) := ⟨⟨by decide +kernel, by decide +kernel⟩, List.mem_of_getElem? (i := 12) (by decide +kernel), List.mem_of_getElem? (i := 298) (by decide +kernel), List.mem_of_getElem? (i := 299) (by decide +kernel)⟩
theorem lw_p1 : lw_okq (⟨"StackRuns", "isPlace", "(II)Z"⟩, 7) := ⟨⟨by decide +kernel, by decide +kernel⟩, List.mem_of_getElem? (i := 12) (by decide +kernel), List.mem_of_getElem? (i := 302) (by decide +kernel), List.mem_of_getElem? (i := 303) (by decide +kernel)⟩
theorem lw_p2 : lw_okq (⟨"StackRuns$Net", "allHops", "(II)I"⟩, 6) := ⟨⟨by decide +kernel, by decide +kernel⟩, List.mem_of_getElem? (i := 162) (by decide +kernel), List.mem_of_getElem? (i := 340) (by decide +kernel), List.mem_of_getElem? (i := 341) (by decide +kernel)⟩
theorem lw_p3 : lw_okq (⟨"StackRuns", "distance", "(I)J"⟩, 7) := ⟨⟨by decide +kernel, by decide +kernel⟩, List.mem_of_getElem? (i := 12) (by decide +kernel), List.mem_of_getElem? (i := 349) (by decide +kernel), List.mem_of_getElem? (i := 350) (by decide +kernel)⟩
theorem lw_p4 : lw_okq (⟨"StackRuns$Pops", "lowerBy", "(LStackRuns$Rules;I)Z"⟩, 2) := ⟨⟨by decide +kernel, by decide +kernel⟩, List.mem_of_getElem? (i := 110) (by decide +kernel), List.mem_of_getElem? (i := 361) (by decide +kernel), List.mem_of_getElem? (i := 362) (by decide +kernel)⟩
theorem lw_p5 : lw_okq (⟨"StackRuns$Pops", "lower", "(IJ)Z"⟩, 2) := ⟨⟨by decide +kernel, by decide +kernel⟩, List.mem_of_getElem? (i := 110) (by decide +kernel), List.mem_of_getElem? (i := 365) (by decide +kernel), List.mem_of_getElem? (i := 366) (by decide +kernel)⟩
theorem lw_p6 : lw_okq (⟨"StackRuns$Pops", "lowerRow", "(LStackRuns$Rules;IJI)Z"⟩, 2) := ⟨⟨by decide +kernel, by decide +kernel⟩, List.mem_of_getElem? (i := 110) (by decide +kernel), List.mem_of_getElem? (i := 378) (by decide +kernel), List.mem_of_getElem? (i := 379) (by decide +kernel)⟩
theorem lw_p7 : lw_okq (⟨"StackRuns$Net", "startFrom", "(LStackRuns$Pops;)V"⟩, 6) := ⟨⟨by decide +kernel, by decide +kernel⟩, List.mem_of_getElem? (i := 162) (by decide +kernel), List.mem_of_getElem? (i := 386) (by decide +kernel), List.mem_of_getElem? (i := 387) (by decide +kernel)⟩
theorem lw_p8 : lw_okq (⟨"StackRuns$Net", "lowerBy", "(LStackRuns$Rules;I)Z"⟩, 6) := ⟨⟨by decide +kernel, by decide +kernel⟩, List.mem_of_getElem? (i := 162) (by decide +kernel), List.mem_of_getElem? (i := 395) (by decide +kernel), List.mem_of_getElem? (i := 396) (by decide +kernel)⟩
theorem lw_p9 : lw_okq (⟨"StackRuns$Net", "lower", "(IIJ)Z"⟩, 6) := ⟨⟨by decide +kernel, by decide +kernel⟩, List.mem_of_getElem? (i := 162) (by decide +kernel), List.mem_of_getElem? (i := 401) (by decide +kernel), List.mem_of_getElem? (i := 402) (by decide +kernel)⟩
theorem lw_p10 : lw_okq (⟨"StackRuns$Net", "lowerRow", "(IJII)Z"⟩, 6) := ⟨⟨by decide +kernel, by decide +kernel⟩, List.mem_of_getElem? (i := 162) (by decide +kernel), List.mem_of_getElem? (i := 405) (by decide +kernel), List.mem_of_getElem? (i := 406) (by decide +kernel)⟩
theorem lw_p11 : lw_okq (⟨"StackRuns", "nearing", "(IJ)I"⟩, 7) := ⟨⟨by decide +kernel, by decide +kernel⟩, List.mem_of_getElem? (i := 12) (by decide +kernel), List.mem_of_getElem? (i := 438) (by decide +kernel), List.mem_of_getElem? (i := 439) (by decide +kernel)⟩
theorem lw_p12 : lw_okq (⟨"StackRuns$Heads", "findExits", "(LStackRuns$Pops;)V"⟩, 6) := ⟨⟨by decide +kernel, by decide +kernel⟩, List.mem_of_getElem? (i := 127) (by decide +kernel), List.mem_of_getElem? (i := 462) (by decide +kernel), List.mem_of_getElem? (i := 463) (by decide +kernel)⟩
theorem lw_p13 : lw_okq (⟨"StackRuns$Heads", "findAhead", "(LStackRuns$Rules;)V"⟩, 6) := ⟨⟨by decide +kernel, by decide +kernel⟩, List.mem_of_getElem? (i := 127) (by decide +kernel), List.mem_of_getElem? (i := 467) (by decide +kernel), List.mem_of_getElem? (i := 468) (by decide +kernel)⟩
theorem lw_p14 : lw_okq (⟨"StackRuns$Heads", "uncovered", "(LStackRuns$Rules;I)I"⟩, 6) := ⟨⟨by decide +kernel, by decide +kernel⟩, List.mem_of_getElem? (i := 127) (by decide +kernel), List.mem_of_getElem? (i := 473) (by decide +kernel), List.mem_of_getElem? (i := 474) (by decide +kernel)⟩
theorem lw_p15 : lw_okq (⟨"StackRuns$Heads", "findCircles", "(LStackRuns$Rules;)V"⟩, 6) := ⟨⟨by decide +kernel, by decide +kernel⟩, List.mem_of_getElem? (i := 127) (by decide +kernel), List.mem_of_getElem? (i := 478) (by decide +kernel), List.mem_of_getElem? (i := 479) (by decide +kernel)⟩
def lw_privs_1 : List (MethodName × Nat) := [(⟨"StackRuns", "isSet", "(I)Z"⟩, 7), (⟨"StackRuns", "isPlace", "(II)Z"⟩, 7), (⟨"StackRuns$Net", "allHops", "(II)I"⟩, 6), (⟨"StackRuns", "distance", "(I)J"⟩, 7), (⟨"StackRuns$Pops", "lowerBy", "(LStackRuns$Rules;I)Z"⟩, 2), (⟨"StackRuns$Pops", "lower", "(IJ)Z"⟩, 2), (⟨"StackRuns$Pops", "lowerRow", "(LStackRuns$Rules;IJI)Z"⟩, 2), (⟨"StackRuns$Net", "startFrom", "(LStackRuns$Pops;)V"⟩, 6), (⟨"StackRuns$Net", "lowerBy", "(LStackRuns$Rules;I)Z"⟩, 6), (⟨"StackRuns$Net", "lower", "(IIJ)Z"⟩, 6), (⟨"StackRuns$Net", "lowerRow", "(IJII)Z"⟩, 6), (⟨"StackRuns", "nearing", "(IJ)I"⟩, 7), (⟨"StackRuns$Heads", "findExits", "(LStackRuns$Pops;)V"⟩, 6), (⟨"StackRuns$Heads", "findAhead", "(LStackRuns$Rules;)V"⟩, 6), (⟨"StackRuns$Heads", "uncovered", "(LStackRuns$Rules;I)I"⟩, 6), (⟨"StackRuns$Heads", "findCircles", "(LStackRuns$Rules;)V"⟩, 6)]
theorem lw_r1 : ∀ q ∈ lw_privs_1, lw_okq q := List.forall_mem_cons.mpr ⟨lw_p0, List.forall_mem_cons.mpr ⟨lw_p1, List.forall_mem_cons.mpr ⟨lw_p2, List.forall_mem_cons.mpr ⟨lw_p3, List.forall_mem_cons.mpr ⟨lw_p4, List.forall_mem_cons.mpr ⟨lw_p5, List.forall_mem_cons.mpr ⟨lw_p6, List.forall_mem_cons.mpr ⟨lw_p7, List.forall_mem_cons.mpr ⟨lw_p8, List.forall_mem_cons.mpr ⟨lw_p9, List.forall_mem_cons.mpr ⟨lw_p10, List.forall_mem_cons.mpr ⟨lw_p11, List.forall_mem_cons.mpr ⟨lw_p12, List.forall_mem_cons.mpr ⟨lw_p13, List.forall_mem_cons.mpr ⟨lw_p14, List.forall_mem_cons.mpr ⟨lw_p15, fun _ h => absurd h List.not_mem_nil⟩⟩⟩⟩⟩⟩⟩⟩⟩⟩⟩⟩⟩⟩⟩⟩
theorem lw_p16 : lw_okq (⟨"StackRuns$Heads", "leadingTo", "(I)I"⟩, 6) := ⟨⟨by decide +kernel, by decide +kernel⟩, List.mem_of_getElem? (i := 127) (by decide +kernel), List.mem_of_getElem? (i := 482) (by decide +kernel), List.mem_of_getElem? (i := 483) (by decide +kernel)⟩
theorem lw_p17 : lw_okq (⟨"StackRuns$Heads", "findTallest", "(LStackRuns$Rules;)V"⟩, 6) := ⟨⟨by decide +kernel, by decide +kernel⟩, List.mem_of_getElem? (i := 127) (by decide +kernel), List.mem_of_getElem? (i := 486) (by decide +kernel), List.mem_of_getElem? (i := 487) (by decide +kernel)⟩
theorem lw_p18 : lw_okq (⟨"StackRuns$Heads", "raiseBy", "(LStackRuns$Rules;I)Z"⟩, 6) := ⟨⟨by decide +kernel, by decide +kernel⟩, List.mem_of_getElem? (i := 127) (by decide +kernel), List.mem_of_getElem? (i := 490) (by decide +kernel), List.mem_of_getElem? (i := 491) (by decide +kernel)⟩
theorem lw_p19 : lw_okq (⟨"StackRuns$Heads", "headsOf", "(II)I"⟩, 6) := ⟨⟨by decide +kernel, by decide +kernel⟩, List.mem_of_getElem? (i := 127) (by decide +kernel), List.mem_of_getElem? (i := 501) (by decide +kernel), List.mem_of_getElem? (i := 502) (by decide +kernel)⟩
theorem lw_p20 : lw_okq (⟨"StackRuns$Heads", "allExits", "(II)I"⟩, 6) := ⟨⟨by decide +kernel, by decide +kernel⟩, List.mem_of_getElem? (i := 127) (by decide +kernel), List.mem_of_getElem? (i := 505) (by decide +kernel), List.mem_of_getElem? (i := 506) (by decide +kernel)⟩
theorem lw_p21 : lw_okq (⟨"StackRunsModel", "isControl", "(I)Z"⟩, 25) := ⟨⟨by decide +kernel, by decide +kernel⟩, List.mem_of_getElem? (i := 525) (by decide +kernel), List.mem_of_getElem? (i := 620) (by decide +kernel), List.mem_of_getElem? (i := 621) (by decide +kernel)⟩
theorem lw_p22 : lw_okq (⟨"StackRunsModel", "isSign", "(I)Z"⟩, 25) := ⟨⟨by decide +kernel, by decide +kernel⟩, List.mem_of_getElem? (i := 525) (by decide +kernel), List.mem_of_getElem? (i := 624) (by decide +kernel), List.mem_of_getElem? (i := 625) (by decide +kernel)⟩
theorem lw_p23 : lw_okq (⟨"StackRunsModel", "goes", "(I)Z"⟩, 25) := ⟨⟨by decide +kernel, by decide +kernel⟩, List.mem_of_getElem? (i := 525) (by decide +kernel), List.mem_of_getElem? (i := 648) (by decide +kernel), List.mem_of_getElem? (i := 649) (by decide +kernel)⟩
theorem lw_p24 : lw_okq (⟨"StackRunsModel", "puts", "(I)I"⟩, 25) := ⟨⟨by decide +kernel, by decide +kernel⟩, List.mem_of_getElem? (i := 525) (by decide +kernel), List.mem_of_getElem? (i := 652) (by decide +kernel), List.mem_of_getElem? (i := 653) (by decide +kernel)⟩
theorem lw_p25 : lw_okq (⟨"StackRunsModel", "does", "(I)V"⟩, 25) := ⟨⟨by decide +kernel, by decide +kernel⟩, List.mem_of_getElem? (i := 525) (by decide +kernel), List.mem_of_getElem? (i := 656) (by decide +kernel), List.mem_of_getElem? (i := 657) (by decide +kernel)⟩
theorem lw_p26 : lw_okq (⟨"StackRunsModel", "isSet", "(I)Z"⟩, 25) := ⟨⟨by decide +kernel, by decide +kernel⟩, List.mem_of_getElem? (i := 525) (by decide +kernel), List.mem_of_getElem? (i := 668) (by decide +kernel), List.mem_of_getElem? (i := 669) (by decide +kernel)⟩
theorem lw_p27 : lw_okq (⟨"StackRunsModel", "isPlace", "(II)Z"⟩, 25) := ⟨⟨by decide +kernel, by decide +kernel⟩, List.mem_of_getElem? (i := 525) (by decide +kernel), List.mem_of_getElem? (i := 672) (by decide +kernel), List.mem_of_getElem? (i := 673) (by decide +kernel)⟩
theorem lw_p28 : lw_okq (⟨"StackRunsModel", "holds", "(I)Z"⟩, 25) := ⟨⟨by decide +kernel, by decide +kernel⟩, List.mem_of_getElem? (i := 525) (by decide +kernel), List.mem_of_getElem? (i := 688) (by decide +kernel), List.mem_of_getElem? (i := 689) (by decide +kernel)⟩
theorem lw_p29 : lw_okq (⟨"StackRunsModel", "isLinked", "(IIII)Z"⟩, 25) := ⟨⟨by decide +kernel, by decide +kernel⟩, List.mem_of_getElem? (i := 525) (by decide +kernel), List.mem_of_getElem? (i := 692) (by decide +kernel), List.mem_of_getElem? (i := 693) (by decide +kernel)⟩
theorem lw_p30 : lw_okq (⟨"StackRunsModel", "findCosts", "(I)V"⟩, 25) := ⟨⟨by decide +kernel, by decide +kernel⟩, List.mem_of_getElem? (i := 525) (by decide +kernel), List.mem_of_getElem? (i := 701) (by decide +kernel), List.mem_of_getElem? (i := 702) (by decide +kernel)⟩
theorem lw_p31 : lw_okq (⟨"StackRunsModel", "settle", "()Z"⟩, 25) := ⟨⟨by decide +kernel, by decide +kernel⟩, List.mem_of_getElem? (i := 525) (by decide +kernel), List.mem_of_getElem? (i := 709) (by decide +kernel), List.mem_of_getElem? (i := 710) (by decide +kernel)⟩
def lw_privs_2 : List (MethodName × Nat) := [(⟨"StackRuns$Heads", "leadingTo", "(I)I"⟩, 6), (⟨"StackRuns$Heads", "findTallest", "(LStackRuns$Rules;)V"⟩, 6), (⟨"StackRuns$Heads", "raiseBy", "(LStackRuns$Rules;I)Z"⟩, 6), (⟨"StackRuns$Heads", "headsOf", "(II)I"⟩, 6), (⟨"StackRuns$Heads", "allExits", "(II)I"⟩, 6), (⟨"StackRunsModel", "isControl", "(I)Z"⟩, 25), (⟨"StackRunsModel", "isSign", "(I)Z"⟩, 25), (⟨"StackRunsModel", "goes", "(I)Z"⟩, 25), (⟨"StackRunsModel", "puts", "(I)I"⟩, 25), (⟨"StackRunsModel", "does", "(I)V"⟩, 25), (⟨"StackRunsModel", "isSet", "(I)Z"⟩, 25), (⟨"StackRunsModel", "isPlace", "(II)Z"⟩, 25), (⟨"StackRunsModel", "holds", "(I)Z"⟩, 25), (⟨"StackRunsModel", "isLinked", "(IIII)Z"⟩, 25), (⟨"StackRunsModel", "findCosts", "(I)V"⟩, 25), (⟨"StackRunsModel", "settle", "()Z"⟩, 25)]
theorem lw_r2 : ∀ q ∈ lw_privs_2, lw_okq q := List.forall_mem_cons.mpr ⟨lw_p16, List.forall_mem_cons.mpr ⟨lw_p17, List.forall_mem_cons.mpr ⟨lw_p18, List.forall_mem_cons.mpr ⟨lw_p19, List.forall_mem_cons.mpr ⟨lw_p20, List.forall_mem_cons.mpr ⟨lw_p21, List.forall_mem_cons.mpr ⟨lw_p22, List.forall_mem_cons.mpr ⟨lw_p23, List.forall_mem_cons.mpr ⟨lw_p24, List.forall_mem_cons.mpr ⟨lw_p25, List.forall_mem_cons.mpr ⟨lw_p26, List.forall_mem_cons.mpr ⟨lw_p27, List.forall_mem_cons.mpr ⟨lw_p28, List.forall_mem_cons.mpr ⟨lw_p29, List.forall_mem_cons.mpr ⟨lw_p30, List.forall_mem_cons.mpr ⟨lw_p31, fun _ h => absurd h List.not_mem_nil⟩⟩⟩⟩⟩⟩⟩⟩⟩⟩⟩⟩⟩⟩⟩⟩
theorem lw_p32 : lw_okq (⟨"StackRunsModel", "byRule", "(II)J"⟩, 25) := ⟨⟨by decide +kernel, by decide +kernel⟩, List.mem_of_getElem? (i := 525) (by decide +kernel), List.mem_of_getElem? (i := 713) (by decide +kernel), List.mem_of_getElem? (i := 714) (by decide +kernel)⟩
theorem lw_p33 : lw_okq (⟨"StackRunsModel", "reading", "(III)J"⟩, 25) := ⟨⟨by decide +kernel, by decide +kernel⟩, List.mem_of_getElem? (i := 525) (by decide +kernel), List.mem_of_getElem? (i := 717) (by decide +kernel), List.mem_of_getElem? (i := 718) (by decide +kernel)⟩
theorem lw_p34 : lw_okq (⟨"StackRunsModel", "farNow", "()J"⟩, 25) := ⟨⟨by decide +kernel, by decide +kernel⟩, List.mem_of_getElem? (i := 525) (by decide +kernel), List.mem_of_getElem? (i := 728) (by decide +kernel), List.mem_of_getElem? (i := 729) (by decide +kernel)⟩
theorem lw_p35 : lw_okq (⟨"StackRunsModel", "readStack", "()V"⟩, 25) := ⟨⟨by decide +kernel, by decide +kernel⟩, List.mem_of_getElem? (i := 525) (by decide +kernel), List.mem_of_getElem? (i := 732) (by decide +kernel), List.mem_of_getElem? (i := 733) (by decide +kernel)⟩
theorem lw_p36 : lw_okq (⟨"StackRunsModel", "nextRule", "(J)I"⟩, 25) := ⟨⟨by decide +kernel, by decide +kernel⟩, List.mem_of_getElem? (i := 525) (by decide +kernel), List.mem_of_getElem? (i := 740) (by decide +kernel), List.mem_of_getElem? (i := 741) (by decide +kernel)⟩
theorem lw_p37 : lw_okq (⟨"StackRunsModel", "findReach", "()V"⟩, 25) := ⟨⟨by decide +kernel, by decide +kernel⟩, List.mem_of_getElem? (i := 525) (by decide +kernel), List.mem_of_getElem? (i := 757) (by decide +kernel), List.mem_of_getElem? (i := 758) (by decide +kernel)⟩
theorem lw_p38 : lw_okq (⟨"StackRunsModel", "headsBy", "(I)I"⟩, 25) := ⟨⟨by decide +kernel, by decide +kernel⟩, List.mem_of_getElem? (i := 525) (by decide +kernel), List.mem_of_getElem? (i := 761) (by decide +kernel), List.mem_of_getElem? (i := 762) (by decide +kernel)⟩
theorem lw_p39 : lw_okq (⟨"StackRunsModel", "isForEver", "(I)Z"⟩, 25) := ⟨⟨by decide +kernel, by decide +kernel⟩, List.mem_of_getElem? (i := 525) (by decide +kernel), List.mem_of_getElem? (i := 765) (by decide +kernel), List.mem_of_getElem? (i := 766) (by decide +kernel)⟩
theorem lw_p40 : lw_okq (⟨"StackRunsModel", "popped", "(II)I"⟩, 25) := ⟨⟨by decide +kernel, by decide +kernel⟩, List.mem_of_getElem? (i := 525) (by decide +kernel), List.mem_of_getElem? (i := 769) (by decide +kernel), List.mem_of_getElem? (i := 770) (by decide +kernel)⟩
theorem lw_p41 : lw_okq (⟨"StackRunsModel", "findHigh", "()V"⟩, 25) := ⟨⟨by decide +kernel, by decide +kernel⟩, List.mem_of_getElem? (i := 525) (by decide +kernel), List.mem_of_getElem? (i := 777) (by decide +kernel), List.mem_of_getElem? (i := 778) (by decide +kernel)⟩
def lw_privs_3 : List (MethodName × Nat) := [(⟨"StackRunsModel", "byRule", "(II)J"⟩, 25), (⟨"StackRunsModel", "reading", "(III)J"⟩, 25), (⟨"StackRunsModel", "farNow", "()J"⟩, 25), (⟨"StackRunsModel", "readStack", "()V"⟩, 25), (⟨"StackRunsModel", "nextRule", "(J)I"⟩, 25), (⟨"StackRunsModel", "findReach", "()V"⟩, 25), (⟨"StackRunsModel", "headsBy", "(I)I"⟩, 25), (⟨"StackRunsModel", "isForEver", "(I)Z"⟩, 25), (⟨"StackRunsModel", "popped", "(II)I"⟩, 25), (⟨"StackRunsModel", "findHigh", "()V"⟩, 25)]
theorem lw_r3 : ∀ q ∈ lw_privs_3, lw_okq q := List.forall_mem_cons.mpr ⟨lw_p32, List.forall_mem_cons.mpr ⟨lw_p33, List.forall_mem_cons.mpr ⟨lw_p34, List.forall_mem_cons.mpr ⟨lw_p35, List.forall_mem_cons.mpr ⟨lw_p36, List.forall_mem_cons.mpr ⟨lw_p37, List.forall_mem_cons.mpr ⟨lw_p38, List.forall_mem_cons.mpr ⟨lw_p39, List.forall_mem_cons.mpr ⟨lw_p40, List.forall_mem_cons.mpr ⟨lw_p41, fun _ h => absurd h List.not_mem_nil⟩⟩⟩⟩⟩⟩⟩⟩⟩⟩
def lw_privs : List (MethodName × Nat) := lw_privs_1 ++ (lw_privs_2 ++ (lw_privs_3))
def lw_tbl : List Cond := k2_sels lw_privs ++ tables_1
theorem lw_privs_ok : ∀ q ∈ lw_privs, lw_okq q := by
  show ∀ q ∈ lw_privs_1 ++ (lw_privs_2 ++ (lw_privs_3)), lw_okq q
  exact List.forall_mem_append.mpr ⟨lw_r1, List.forall_mem_append.mpr ⟨lw_r2, lw_r3⟩⟩
end
section
theorem goodIn_r {big : List Cond} (ws : List Cond) (ps : List Nat) (hp : ws = ps.filterMap (fun i => big[i]?)) (h : ws.all goodWord = true) : GoodIn big ws := by
  intro w hw
  have h1 := List.all_eq_true.mp h w hw
  rw [hp] at hw
  obtain ⟨i, -, hi⟩ := List.mem_filterMap.mp hw
  have hm : w ∈ big := by first | exact List.mem_of_getElem? hi | exact List.getElem?_mem hi
  exact ⟨hm, good_of_word h1⟩
theorem goodIn_app {big a b : List Cond} (ha : GoodIn big a) (hb : GoodIn big b) : GoodIn big (a ++ b) := fun w h => (List.mem_append.mp h).elim (ha w) (hb w)
theorem goodIn_ca {big a b : List Cond} {c : Cond} (ha : GoodIn big (c :: a)) (hb : GoodIn big b) : GoodIn big (c :: (a ++ b)) := fun w h => (List.mem_cons.mp h).elim (fun e => ha w (List.mem_cons.mpr (Or.inl e))) (fun h => (List.mem_append.mp h).elim (fun h => ha w (List.mem_cons.mpr (Or.inr h))) (hb w))
theorem goodIn_sub {big ws : List Cond} (hm : ∀ w ∈ ws, w ∈ big) (h : ws.all goodWord = true) : GoodIn big ws := fun w hw => ⟨hm w hw, good_of_word (List.all_eq_true.mp h w hw)⟩

def RX0 : String := "StackRuns$Heads"
def TX0 : u_T := fun k => match k with
  | 0 => ("StackRuns$Heads", "exits", "[I", true)
  | 1 => ("StackRuns$Heads", "ahead", "[I", true)
  | 2 => ("StackRuns$Heads", "tallest", "[I", true)
  | 3 => ("StackRuns$Heads", "circling", "I", false)
  | 4 => ("StackRuns$Heads", "boundless", "I", false)
  | _ => ("StackRuns$Heads", "seen", "I", false)
def tyX0 : Nat → FieldType := fun k => match k with
  | 0 => .array .int
  | 1 => .array .int
  | 2 => .array .int
  | 3 => .int
  | 4 => .int
  | _ => .int
abbrev wsX00 : List Cond := u_ws RX0 TX0 6
theorem nmX0 : ∀ a, a < 6 → ∀ b, b < 6 → a ≠ b → (TX0 a).2.1 ≠ (TX0 b).2.1 := by decide +kernel
theorem tyX0_ok : ∀ k, k < 6 → parseFieldDescriptor (TX0 k).2.2.1 = some (tyX0 k) := by decide +kernel
abbrev cX0_init : ByteArray := prog_2_method_1_code
def yX0_init : MethodName := ⟨RX0, "<init>", "()V"⟩
abbrev cX0_renew : ByteArray := prog_2_method_2_code
def yX0_renew : MethodName := ⟨RX0, "renew", "(LStackRuns$Rules;LStackRuns$Pops;)V"⟩
abbrev cX0_findExits : ByteArray := prog_2_method_3_code
def yX0_findExits : MethodName := ⟨RX0, "findExits", "(LStackRuns$Pops;)V"⟩
abbrev cX0_findAhead : ByteArray := prog_2_method_4_code
def yX0_findAhead : MethodName := ⟨RX0, "findAhead", "(LStackRuns$Rules;)V"⟩
abbrev cX0_uncovered : ByteArray := prog_2_method_5_code
def yX0_uncovered : MethodName := ⟨RX0, "uncovered", "(LStackRuns$Rules;I)I"⟩
abbrev cX0_findCircles : ByteArray := prog_2_method_6_code
def yX0_findCircles : MethodName := ⟨RX0, "findCircles", "(LStackRuns$Rules;)V"⟩
abbrev cX0_leadingTo : ByteArray := prog_2_method_7_code
def yX0_leadingTo : MethodName := ⟨RX0, "leadingTo", "(I)I"⟩
abbrev cX0_findTallest : ByteArray := prog_2_method_8_code
def yX0_findTallest : MethodName := ⟨RX0, "findTallest", "(LStackRuns$Rules;)V"⟩
abbrev cX0_raiseBy : ByteArray := prog_2_method_9_code
def yX0_raiseBy : MethodName := ⟨RX0, "raiseBy", "(LStackRuns$Rules;I)Z"⟩
abbrev cX0_goOnFrom : ByteArray := prog_2_method_10_code
def yX0_goOnFrom : MethodName := ⟨RX0, "goOnFrom", "(LStackRuns$Stand;)Z"⟩
abbrev cX0_topFrom : ByteArray := prog_2_method_11_code
def yX0_topFrom : MethodName := ⟨RX0, "topFrom", "(LStackRuns$Stand;)I"⟩
abbrev cX0_headsOf : ByteArray := prog_2_method_12_code
def yX0_headsOf : MethodName := ⟨RX0, "headsOf", "(II)I"⟩
abbrev cX0_allExits : ByteArray := prog_2_method_13_code
def yX0_allExits : MethodName := ⟨RX0, "allExits", "(II)I"⟩
def RX1 : String := "StackRuns$Ladder"
def TX1 : u_T := fun k => match k with
  | _ => ("StackRuns$Ladder", "rows", "[J", true)
def tyX1 : Nat → FieldType := fun k => match k with
  | _ => .array .long
abbrev wsX10 : List Cond := u_ws RX1 TX1 1
theorem nmX1 : ∀ a, a < 1 → ∀ b, b < 1 → a ≠ b → (TX1 a).2.1 ≠ (TX1 b).2.1 := by decide +kernel
theorem tyX1_ok : ∀ k, k < 1 → parseFieldDescriptor (TX1 k).2.2.1 = some (tyX1 k) := by decide +kernel
abbrev cX1_init : ByteArray := prog_3_method_1_code
def yX1_init : MethodName := ⟨RX1, "<init>", "()V"⟩
abbrev cX1_start : ByteArray := prog_3_method_2_code
def yX1_start : MethodName := ⟨RX1, "start", "(LStackRuns$Net;)V"⟩
abbrev cX1_build : ByteArray := prog_3_method_3_code
def yX1_build : MethodName := ⟨RX1, "build", "(LStackRuns$Net;LStackRuns$Stand;I)V"⟩
abbrev cX1_across : ByteArray := prog_3_method_4_code
def yX1_across : MethodName := ⟨RX1, "across", "(LStackRuns$Net;III)J"⟩
abbrev cX1_after : ByteArray := prog_3_method_5_code
def yX1_after : MethodName := ⟨RX1, "after", "(LStackRuns$Net;LStackRuns$Rules;II)J"⟩
def RX2 : String := "StackRuns$Net"
def TX2 : u_T := fun k => match k with
  | 0 => ("StackRuns$Net", "links", "I", false)
  | 1 => ("StackRuns$Net", "lastPlaces", "I", false)
  | 2 => ("StackRuns$Net", "hops", "[I", true)
  | 3 => ("StackRuns$Net", "cost", "[J", true)
  | 4 => ("StackRuns$Net", "stale", "Z", false)
  | _ => ("StackRuns$Net", "seen", "I", false)
def tyX2 : Nat → FieldType := fun k => match k with
  | 0 => .int
  | 1 => .int
  | 2 => .array .int
  | 3 => .array .long
  | 4 => .boolean
  | _ => .int
abbrev wsX20 : List Cond := u_ws RX2 TX2 6
theorem nmX2 : ∀ a, a < 6 → ∀ b, b < 6 → a ≠ b → (TX2 a).2.1 ≠ (TX2 b).2.1 := by decide +kernel
theorem tyX2_ok : ∀ k, k < 6 → parseFieldDescriptor (TX2 k).2.2.1 = some (tyX2 k) := by decide +kernel
abbrev cX2_init : ByteArray := prog_4_method_1_code
def yX2_init : MethodName := ⟨RX2, "<init>", "()V"⟩
abbrev cX2_restart : ByteArray := prog_4_method_2_code
def yX2_restart : MethodName := ⟨RX2, "restart", "()V"⟩
abbrev cX2_join : ByteArray := prog_4_method_3_code
def yX2_join : MethodName := ⟨RX2, "join", "(III)I"⟩
abbrev cX2_mark : ByteArray := prog_4_method_4_code
def yX2_mark : MethodName := ⟨RX2, "mark", "(IZ)Z"⟩
abbrev cX2_isLast : ByteArray := prog_4_method_5_code
def yX2_isLast : MethodName := ⟨RX2, "isLast", "(I)Z"⟩
abbrev cX2_hasHop : ByteArray := prog_4_method_6_code
def yX2_hasHop : MethodName := ⟨RX2, "hasHop", "(III)Z"⟩
abbrev cX2_holds : ByteArray := prog_4_method_7_code
def yX2_holds : MethodName := ⟨RX2, "holds", "(LStackRuns$Stand;)Z"⟩
abbrev cX2_allHops : ByteArray := prog_4_method_8_code
def yX2_allHops : MethodName := ⟨RX2, "allHops", "(II)I"⟩
abbrev cX2_renew : ByteArray := prog_4_method_9_code
def yX2_renew : MethodName := ⟨RX2, "renew", "(LStackRuns$Rules;LStackRuns$Pops;)V"⟩
abbrev cX2_startFrom : ByteArray := prog_4_method_10_code
def yX2_startFrom : MethodName := ⟨RX2, "startFrom", "(LStackRuns$Pops;)V"⟩
abbrev cX2_lowerBy : ByteArray := prog_4_method_11_code
def yX2_lowerBy : MethodName := ⟨RX2, "lowerBy", "(LStackRuns$Rules;I)Z"⟩
abbrev cX2_lowerRow : ByteArray := prog_4_method_12_code
def yX2_lowerRow : MethodName := ⟨RX2, "lowerRow", "(IJII)Z"⟩
abbrev cX2_lower : ByteArray := prog_4_method_13_code
def yX2_lower : MethodName := ⟨RX2, "lower", "(IIJ)Z"⟩
abbrev cX2_through : ByteArray := prog_4_method_14_code
def yX2_through : MethodName := ⟨RX2, "through", "(III)J"⟩
def RX3 : String := "StackRuns$Pops"
def TX3 : u_T := fun k => match k with
  | 0 => ("StackRuns$Pops", "least", "[J", true)
  | _ => ("StackRuns$Pops", "seen", "I", false)
def tyX3 : Nat → FieldType := fun k => match k with
  | 0 => .array .long
  | _ => .int
abbrev wsX30 : List Cond := u_ws RX3 TX3 2
theorem nmX3 : ∀ a, a < 2 → ∀ b, b < 2 → a ≠ b → (TX3 a).2.1 ≠ (TX3 b).2.1 := by decide +kernel
theorem tyX3_ok : ∀ k, k < 2 → parseFieldDescriptor (TX3 k).2.2.1 = some (tyX3 k) := by decide +kernel
abbrev cX3_init : ByteArray := prog_5_method_1_code
def yX3_init : MethodName := ⟨RX3, "<init>", "()V"⟩
abbrev cX3_renew : ByteArray := prog_5_method_2_code
def yX3_renew : MethodName := ⟨RX3, "renew", "(LStackRuns$Rules;)V"⟩
abbrev cX3_lowerBy : ByteArray := prog_5_method_3_code
def yX3_lowerBy : MethodName := ⟨RX3, "lowerBy", "(LStackRuns$Rules;I)Z"⟩
abbrev cX3_lowerRow : ByteArray := prog_5_method_4_code
def yX3_lowerRow : MethodName := ⟨RX3, "lowerRow", "(LStackRuns$Rules;IJI)Z"⟩
abbrev cX3_lower : ByteArray := prog_5_method_5_code
def yX3_lower : MethodName := ⟨RX3, "lower", "(IJ)Z"⟩
def RX4 : String := "StackRuns$Rules"
def TX4 : u_T := fun k => match k with
  | 0 => ("StackRuns$Rules", "controls", "I", false)
  | 1 => ("StackRuns$Rules", "alphabet", "I", false)
  | 2 => ("StackRuns$Rules", "size", "I", false)
  | 3 => ("StackRuns$Rules", "stamp", "I", false)
  | 4 => ("StackRuns$Rules", "head", "[I", true)
  | 5 => ("StackRuns$Rules", "to", "[I", true)
  | 6 => ("StackRuns$Rules", "top", "[I", true)
  | _ => ("StackRuns$Rules", "below", "[I", true)
def tyX4 : Nat → FieldType := fun k => match k with
  | 0 => .int
  | 1 => .int
  | 2 => .int
  | 3 => .int
  | 4 => .array .int
  | 5 => .array .int
  | 6 => .array .int
  | _ => .array .int
abbrev wsX40 : List Cond := u_ws RX4 TX4 8
theorem nmX4 : ∀ a, a < 8 → ∀ b, b < 8 → a ≠ b → (TX4 a).2.1 ≠ (TX4 b).2.1 := by decide +kernel
theorem tyX4_ok : ∀ k, k < 8 → parseFieldDescriptor (TX4 k).2.2.1 = some (tyX4 k) := by decide +kernel
abbrev cX4_init : ByteArray := prog_6_method_1_code
def yX4_init : MethodName := ⟨RX4, "<init>", "()V"⟩
abbrev cX4_restart : ByteArray := prog_6_method_2_code
def yX4_restart : MethodName := ⟨RX4, "restart", "(II)V"⟩
abbrev cX4_isControl : ByteArray := prog_6_method_3_code
def yX4_isControl : MethodName := ⟨RX4, "isControl", "(I)Z"⟩
abbrev cX4_isSign : ByteArray := prog_6_method_4_code
def yX4_isSign : MethodName := ⟨RX4, "isSign", "(I)Z"⟩
abbrev cX4_add : ByteArray := prog_6_method_5_code
def yX4_add : MethodName := ⟨RX4, "add", "(IIII)I"⟩
abbrev cX4_dropNewest : ByteArray := prog_6_method_6_code
def yX4_dropNewest : MethodName := ⟨RX4, "dropNewest", "()I"⟩
abbrev cX4_matching : ByteArray := prog_6_method_7_code
def yX4_matching : MethodName := ⟨RX4, "matching", "(I)I"⟩
def RX5 : String := "StackRuns$Stand"
def TX5 : u_T := fun k => match k with
  | 0 => ("StackRuns$Stand", "control", "I", false)
  | 1 => ("StackRuns$Stand", "height", "I", false)
  | _ => ("StackRuns$Stand", "signs", "[I", true)
def tyX5 : Nat → FieldType := fun k => match k with
  | 0 => .int
  | 1 => .int
  | _ => .array .int
abbrev wsX50 : List Cond := u_ws RX5 TX5 3
theorem nmX5 : ∀ a, a < 3 → ∀ b, b < 3 → a ≠ b → (TX5 a).2.1 ≠ (TX5 b).2.1 := by decide +kernel
theorem tyX5_ok : ∀ k, k < 3 → parseFieldDescriptor (TX5 k).2.2.1 = some (tyX5 k) := by decide +kernel
abbrev cX5_init : ByteArray := prog_7_method_1_code
def yX5_init : MethodName := ⟨RX5, "<init>", "()V"⟩
abbrev cX5_restart : ByteArray := prog_7_method_2_code
def yX5_restart : MethodName := ⟨RX5, "restart", "(I)V"⟩
abbrev cX5_cover : ByteArray := prog_7_method_3_code
def yX5_cover : MethodName := ⟨RX5, "cover", "(I)V"⟩
abbrev cX5_head : ByteArray := prog_7_method_4_code
def yX5_head : MethodName := ⟨RX5, "head", "()I"⟩
abbrev cX5_hasRoom : ByteArray := prog_7_method_5_code
def yX5_hasRoom : MethodName := ⟨RX5, "hasRoom", "(LStackRuns$Rules;I)Z"⟩
abbrev cX5_change : ByteArray := prog_7_method_6_code
def yX5_change : MethodName := ⟨RX5, "change", "(LStackRuns$Rules;I)V"⟩
def RX6 : String := "StackRuns"
def TX6 : u_T := fun k => match k with
  | 0 => ("StackRuns", "rules", "LStackRuns$Rules;", true)
  | 1 => ("StackRuns", "here", "LStackRuns$Stand;", true)
  | 2 => ("StackRuns", "nets", "[LStackRuns$Net;", true)
  | 3 => ("StackRuns", "pops", "LStackRuns$Pops;", true)
  | 4 => ("StackRuns", "heads", "LStackRuns$Heads;", true)
  | 5 => ("StackRuns", "ladder", "LStackRuns$Ladder;", true)
  | _ => ("StackRuns", "sets", "I", false)
def tyX6 : Nat → FieldType := fun k => match k with
  | 0 => .object "StackRuns$Rules"
  | 1 => .object "StackRuns$Stand"
  | 2 => .array (.object "StackRuns$Net")
  | 3 => .object "StackRuns$Pops"
  | 4 => .object "StackRuns$Heads"
  | 5 => .object "StackRuns$Ladder"
  | _ => .int
abbrev wsX60 : List Cond := u_ws RX6 TX6 7
theorem nmX6 : ∀ a, a < 7 → ∀ b, b < 7 → a ≠ b → (TX6 a).2.1 ≠ (TX6 b).2.1 := by decide +kernel
theorem tyX6_ok : ∀ k, k < 7 → parseFieldDescriptor (TX6 k).2.2.1 = some (tyX6 k) := by decide +kernel
abbrev cX6_init : ByteArray := prog_1_method_1_code
def yX6_init : MethodName := ⟨RX6, "<init>", "()V"⟩
abbrev cX6_machine : ByteArray := prog_1_method_2_code
def yX6_machine : MethodName := ⟨RX6, "machine", "(II)I"⟩
abbrev cX6_rule : ByteArray := prog_1_method_3_code
def yX6_rule : MethodName := ⟨RX6, "rule", "(IIIII)I"⟩
abbrev cX6_unrule : ByteArray := prog_1_method_4_code
def yX6_unrule : MethodName := ⟨RX6, "unrule", "()I"⟩
abbrev cX6_stand : ByteArray := prog_1_method_5_code
def yX6_stand : MethodName := ⟨RX6, "stand", "(I)I"⟩
abbrev cX6_push : ByteArray := prog_1_method_6_code
def yX6_push : MethodName := ⟨RX6, "push", "(I)I"⟩
abbrev cX6_at : ByteArray := prog_1_method_7_code
def yX6_at : MethodName := ⟨RX6, "at", "(I)I"⟩
abbrev cX6_go : ByteArray := prog_1_method_8_code
def yX6_go : MethodName := ⟨RX6, "go", "(I)I"⟩
abbrev cX6_set : ByteArray := prog_1_method_9_code
def yX6_set : MethodName := ⟨RX6, "set", "()I"⟩
abbrev cX6_link : ByteArray := prog_1_method_10_code
def yX6_link : MethodName := ⟨RX6, "link", "(IIIII)I"⟩
abbrev cX6_last : ByteArray := prog_1_method_11_code
def yX6_last : MethodName := ⟨RX6, "last", "(IIIZ)I"⟩
abbrev cX6_unset : ByteArray := prog_1_method_12_code
def yX6_unset : MethodName := ⟨RX6, "unset", "()I"⟩
abbrev cX6_in : ByteArray := prog_1_method_13_code
def yX6_in : MethodName := ⟨RX6, "in", "(I)I"⟩
abbrev cX6_far : ByteArray := prog_1_method_14_code
def yX6_far : MethodName := ⟨RX6, "far", "(I)J"⟩
abbrev cX6_step : ByteArray := prog_1_method_15_code
def yX6_step : MethodName := ⟨RX6, "step", "(I)I"⟩
abbrev cX6_run : ByteArray := prog_1_method_16_code
def yX6_run : MethodName := ⟨RX6, "run", "(II)I"⟩
abbrev cX6_pop : ByteArray := prog_1_method_17_code
def yX6_pop : MethodName := ⟨RX6, "pop", "(III)J"⟩
abbrev cX6_endless : ByteArray := prog_1_method_18_code
def yX6_endless : MethodName := ⟨RX6, "endless", "()I"⟩
abbrev cX6_high : ByteArray := prog_1_method_19_code
def yX6_high : MethodName := ⟨RX6, "high", "()I"⟩
abbrev cX6_count : ByteArray := prog_1_method_20_code
def yX6_count : MethodName := ⟨RX6, "count", "(I)I"⟩
abbrev cX6_isSet : ByteArray := prog_1_method_21_code
def yX6_isSet : MethodName := ⟨RX6, "isSet", "(I)Z"⟩
abbrev cX6_isPlace : ByteArray := prog_1_method_22_code
def yX6_isPlace : MethodName := ⟨RX6, "isPlace", "(II)Z"⟩
abbrev cX6_placeOf : ByteArray := prog_1_method_23_code
def yX6_placeOf : MethodName := ⟨RX6, "placeOf", "(II)I"⟩
abbrev cX6_headOf : ByteArray := prog_1_method_24_code
def yX6_headOf : MethodName := ⟨RX6, "headOf", "(II)I"⟩
abbrev cX6_told : ByteArray := prog_1_method_25_code
def yX6_told : MethodName := ⟨RX6, "told", "(J)J"⟩
abbrev cX6_hasBit : ByteArray := prog_1_method_26_code
def yX6_hasBit : MethodName := ⟨RX6, "hasBit", "(II)Z"⟩
abbrev cX6_sum : ByteArray := prog_1_method_27_code
def yX6_sum : MethodName := ⟨RX6, "sum", "(JJ)J"⟩
abbrev cX6_distance : ByteArray := prog_1_method_28_code
def yX6_distance : MethodName := ⟨RX6, "distance", "(I)J"⟩
abbrev cX6_nearing : ByteArray := prog_1_method_29_code
def yX6_nearing : MethodName := ⟨RX6, "nearing", "(IJ)I"⟩
def RX7 : String := "StackRunsModel"
def TX7 : u_T := fun k => match k with
  | 0 => ("StackRunsModel", "controls", "I", false)
  | 1 => ("StackRunsModel", "signs", "I", false)
  | 2 => ("StackRunsModel", "rules", "I", false)
  | 3 => ("StackRunsModel", "ruleP", "[I", true)
  | 4 => ("StackRunsModel", "ruleS", "[I", true)
  | 5 => ("StackRunsModel", "ruleQ", "[I", true)
  | 6 => ("StackRunsModel", "ruleA", "[I", true)
  | 7 => ("StackRunsModel", "ruleB", "[I", true)
  | 8 => ("StackRunsModel", "control", "I", false)
  | 9 => ("StackRunsModel", "stack", "[I", true)
  | 10 => ("StackRunsModel", "height", "I", false)
  | 11 => ("StackRunsModel", "sets", "I", false)
  | 12 => ("StackRunsModel", "linkMany", "[I", true)
  | 13 => ("StackRunsModel", "linkFrom", "[I", true)
  | 14 => ("StackRunsModel", "linkBy", "[I", true)
  | 15 => ("StackRunsModel", "linkTo", "[I", true)
  | 16 => ("StackRunsModel", "isLast", "[Z", true)
  | 17 => ("StackRunsModel", "costs", "[J", true)
  | 18 => ("StackRunsModel", "links", "[Z", true)
  | 19 => ("StackRunsModel", "netOf", "I", false)
  | 20 => ("StackRunsModel", "isSure", "[Z", true)
  | 21 => ("StackRunsModel", "trial", "[J", true)
  | 22 => ("StackRunsModel", "rest", "[J", true)
  | 23 => ("StackRunsModel", "reach", "[I", true)
  | _ => ("StackRunsModel", "high", "[I", true)
def tyX7 : Nat → FieldType := fun k => match k with
  | 0 => .int
  | 1 => .int
  | 2 => .int
  | 3 => .array .int
  | 4 => .array .int
  | 5 => .array .int
  | 6 => .array .int
  | 7 => .array .int
  | 8 => .int
  | 9 => .array .int
  | 10 => .int
  | 11 => .int
  | 12 => .array .int
  | 13 => .array .int
  | 14 => .array .int
  | 15 => .array .int
  | 16 => .array .boolean
  | 17 => .array .long
  | 18 => .array .boolean
  | 19 => .int
  | 20 => .array .boolean
  | 21 => .array .long
  | 22 => .array .long
  | 23 => .array .int
  | _ => .array .int
abbrev wsX70 : List Cond := u_ws RX7 TX7 25
theorem nmX7 : ∀ a, a < 25 → ∀ b, b < 25 → a ≠ b → (TX7 a).2.1 ≠ (TX7 b).2.1 := by decide +kernel
theorem tyX7_ok : ∀ k, k < 25 → parseFieldDescriptor (TX7 k).2.2.1 = some (tyX7 k) := by decide +kernel
abbrev cX7_init : ByteArray := prog_9_method_1_code
def yX7_init : MethodName := ⟨RX7, "<init>", "()V"⟩
abbrev cX7_isIn : ByteArray := prog_9_method_2_code
def yX7_isIn : MethodName := ⟨RX7, "isIn", "(JJJ)Z"⟩
abbrev cX7_isControl : ByteArray := prog_9_method_3_code
def yX7_isControl : MethodName := ⟨RX7, "isControl", "(I)Z"⟩
abbrev cX7_isSign : ByteArray := prog_9_method_4_code
def yX7_isSign : MethodName := ⟨RX7, "isSign", "(I)Z"⟩
abbrev cX7_machine : ByteArray := prog_9_method_5_code
def yX7_machine : MethodName := ⟨RX7, "machine", "(II)I"⟩
abbrev cX7_rule : ByteArray := prog_9_method_6_code
def yX7_rule : MethodName := ⟨RX7, "rule", "(IIIII)I"⟩
abbrev cX7_unrule : ByteArray := prog_9_method_7_code
def yX7_unrule : MethodName := ⟨RX7, "unrule", "()I"⟩
abbrev cX7_stand : ByteArray := prog_9_method_8_code
def yX7_stand : MethodName := ⟨RX7, "stand", "(I)I"⟩
abbrev cX7_push : ByteArray := prog_9_method_9_code
def yX7_push : MethodName := ⟨RX7, "push", "(I)I"⟩
abbrev cX7_at : ByteArray := prog_9_method_10_code
def yX7_at : MethodName := ⟨RX7, "at", "(I)I"⟩
abbrev cX7_goes : ByteArray := prog_9_method_11_code
def yX7_goes : MethodName := ⟨RX7, "goes", "(I)Z"⟩
abbrev cX7_puts : ByteArray := prog_9_method_12_code
def yX7_puts : MethodName := ⟨RX7, "puts", "(I)I"⟩
abbrev cX7_does : ByteArray := prog_9_method_13_code
def yX7_does : MethodName := ⟨RX7, "does", "(I)V"⟩
abbrev cX7_go : ByteArray := prog_9_method_14_code
def yX7_go : MethodName := ⟨RX7, "go", "(I)I"⟩
abbrev cX7_isSet : ByteArray := prog_9_method_15_code
def yX7_isSet : MethodName := ⟨RX7, "isSet", "(I)Z"⟩
abbrev cX7_set : ByteArray := prog_9_method_16_code
def yX7_set : MethodName := ⟨RX7, "set", "()I"⟩
abbrev cX7_isPlace : ByteArray := prog_9_method_17_code
def yX7_isPlace : MethodName := ⟨RX7, "isPlace", "(II)Z"⟩
abbrev cX7_link : ByteArray := prog_9_method_18_code
def yX7_link : MethodName := ⟨RX7, "link", "(IIIII)I"⟩
abbrev cX7_last : ByteArray := prog_9_method_19_code
def yX7_last : MethodName := ⟨RX7, "last", "(IIIZ)I"⟩
abbrev cX7_unset : ByteArray := prog_9_method_20_code
def yX7_unset : MethodName := ⟨RX7, "unset", "()I"⟩
abbrev cX7_isLinked : ByteArray := prog_9_method_21_code
def yX7_isLinked : MethodName := ⟨RX7, "isLinked", "(IIII)Z"⟩
abbrev cX7_holds : ByteArray := prog_9_method_22_code
def yX7_holds : MethodName := ⟨RX7, "holds", "(I)Z"⟩
abbrev cX7_in : ByteArray := prog_9_method_23_code
def yX7_in : MethodName := ⟨RX7, "in", "(I)I"⟩
abbrev cX7_costAt : ByteArray := prog_9_method_24_code
def yX7_costAt : MethodName := ⟨RX7, "costAt", "(III)I"⟩
abbrev cX7_plus : ByteArray := prog_9_method_25_code
def yX7_plus : MethodName := ⟨RX7, "plus", "(JJ)J"⟩
abbrev cX7_lesser : ByteArray := prog_9_method_26_code
def yX7_lesser : MethodName := ⟨RX7, "lesser", "(JJ)J"⟩
abbrev cX7_reading : ByteArray := prog_9_method_27_code
def yX7_reading : MethodName := ⟨RX7, "reading", "(III)J"⟩
abbrev cX7_byRule : ByteArray := prog_9_method_28_code
def yX7_byRule : MethodName := ⟨RX7, "byRule", "(II)J"⟩
abbrev cX7_findCosts : ByteArray := prog_9_method_29_code
def yX7_findCosts : MethodName := ⟨RX7, "findCosts", "(I)V"⟩
abbrev cX7_settle : ByteArray := prog_9_method_30_code
def yX7_settle : MethodName := ⟨RX7, "settle", "()Z"⟩
abbrev cX7_readStack : ByteArray := prog_9_method_31_code
def yX7_readStack : MethodName := ⟨RX7, "readStack", "()V"⟩
abbrev cX7_farNow : ByteArray := prog_9_method_32_code
def yX7_farNow : MethodName := ⟨RX7, "farNow", "()J"⟩
abbrev cX7_far : ByteArray := prog_9_method_33_code
def yX7_far : MethodName := ⟨RX7, "far", "(I)J"⟩
abbrev cX7_nextRule : ByteArray := prog_9_method_34_code
def yX7_nextRule : MethodName := ⟨RX7, "nextRule", "(J)I"⟩
abbrev cX7_step : ByteArray := prog_9_method_35_code
def yX7_step : MethodName := ⟨RX7, "step", "(I)I"⟩
abbrev cX7_run : ByteArray := prog_9_method_36_code
def yX7_run : MethodName := ⟨RX7, "run", "(II)I"⟩
abbrev cX7_pop : ByteArray := prog_9_method_37_code
def yX7_pop : MethodName := ⟨RX7, "pop", "(III)J"⟩
abbrev cX7_headsBy : ByteArray := prog_9_method_38_code
def yX7_headsBy : MethodName := ⟨RX7, "headsBy", "(I)I"⟩
abbrev cX7_findReach : ByteArray := prog_9_method_39_code
def yX7_findReach : MethodName := ⟨RX7, "findReach", "()V"⟩
abbrev cX7_isForEver : ByteArray := prog_9_method_40_code
def yX7_isForEver : MethodName := ⟨RX7, "isForEver", "(I)Z"⟩
abbrev cX7_popped : ByteArray := prog_9_method_41_code
def yX7_popped : MethodName := ⟨RX7, "popped", "(II)I"⟩
abbrev cX7_endless : ByteArray := prog_9_method_42_code
def yX7_endless : MethodName := ⟨RX7, "endless", "()I"⟩
abbrev cX7_findHigh : ByteArray := prog_9_method_43_code
def yX7_findHigh : MethodName := ⟨RX7, "findHigh", "()V"⟩
abbrev cX7_high : ByteArray := prog_9_method_44_code
def yX7_high : MethodName := ⟨RX7, "high", "()I"⟩
abbrev cX7_count : ByteArray := prog_9_method_45_code
def yX7_count : MethodName := ⟨RX7, "count", "(I)I"⟩
def RJ9 : String := "java/lang/Math"
def TJ9 : u_T := fun k => match k with
  | _ => ("", "", "", false)
def tyJ9 : Nat → FieldType := fun k => match k with
  | _ => .int
abbrev wsJ90 : List Cond := u_ws RJ9 TJ9 0
theorem nmJ9 : ∀ a, a < 0 → ∀ b, b < 0 → a ≠ b → (TJ9 a).2.1 ≠ (TJ9 b).2.1 := by decide +kernel
theorem tyJ9_ok : ∀ k, k < 0 → parseFieldDescriptor (TJ9 k).2.2.1 = some (tyJ9 k) := by decide +kernel
abbrev cJ9_max_7cf53 : ByteArray := prog_10_method_65_code
def yJ9_max_7cf53 : MethodName := ⟨RJ9, "max", "(II)I"⟩
abbrev cJ9_min_f86c9 : ByteArray := prog_10_method_70_code
def yJ9_min_f86c9 : MethodName := ⟨RJ9, "min", "(JJ)J"⟩
def RJ7 : String := "java/util/Arrays"
def TJ7 : u_T := fun k => match k with
  | _ => ("", "", "", false)
def tyJ7 : Nat → FieldType := fun k => match k with
  | _ => .int
abbrev wsJ70 : List Cond := u_ws RJ7 TJ7 0
theorem nmJ7 : ∀ a, a < 0 → ∀ b, b < 0 → a ≠ b → (TJ7 a).2.1 ≠ (TJ7 b).2.1 := by decide +kernel
theorem tyJ7_ok : ∀ k, k < 0 → parseFieldDescriptor (TJ7 k).2.2.1 = some (tyJ7 k) := by decide +kernel
abbrev cJ7_fill_d0a16 : ByteArray := prog_11_method_101_code
def yJ7_fill_d0a16 : MethodName := ⟨RJ7, "fill", "([JJ)V"⟩
abbrev cJ7_fill_53178 : ByteArray := prog_11_method_103_code
def yJ7_fill_53178 : MethodName := ⟨RJ7, "fill", "([II)V"⟩
def RL : String := "StackRunsLaw"
abbrev cL_law : ByteArray := code
def yL_law : MethodName := ⟨RL, "law", "([I)Z"⟩
def wsX0_init : List Cond := .code yX0_init cX0_init 1 none :: ([.methodLink RX0 3 objectInit, .instanceMethod objectInit, .code objectInit ⟨#[0xb1]⟩ 1 none, .arrayClass .int, .fieldLink RX0 9 "StackRuns$Heads" "exits" "[I", .fieldLink RX0 15 "StackRuns$Heads" "ahead" "[I", .fieldLink RX0 18 "StackRuns$Heads" "tallest" "[I", .fieldLink RX0 21 "StackRuns$Heads" "circling" "I", .fieldLink RX0 25 "StackRuns$Heads" "boundless" "I", .fieldLink RX0 28 "StackRuns$Heads" "seen" "I"] ++ wsX00)
def wsX0_findExits : List Cond := .code yX0_findExits cX0_findExits 4 none :: ([.fieldLink RX0 9 "StackRuns$Heads" "exits" "[I", .constantLong RX0 56 (9000000000000000000)] ++ wsX00 ++ wsX30)
def wsJ7_fill_53178 : List Cond := .code yJ7_fill_53178 cJ7_fill_53178 4 none :: ([])
def wsX6_headOf : List Cond := .code yX6_headOf cX6_headOf 2 (some .int) :: ([])
def wsX6_hasBit : List Cond := .code yX6_hasBit cX6_hasBit 2 (some .boolean) :: ([])
def wsX0_uncovered : List Cond := .code yX0_uncovered cX0_uncovered 6 (some .int) :: ([.fieldLink RX0 9 "StackRuns$Heads" "exits" "[I", .static yX6_headOf, .initialized RX6, .code yX6_headOf cX6_headOf 2 (some .int), .static yX6_hasBit, .code yX6_hasBit cX6_hasBit 2 (some .boolean)] ++ wsX40 ++ wsX00)
def wsX0_findAhead : List Cond := .code yX0_findAhead cX0_findAhead 4 none :: ([.fieldLink RX0 15 "StackRuns$Heads" "ahead" "[I", .methodLink RX0 58 yJ7_fill_53178, .static yJ7_fill_53178, .initialized RJ7, .code yJ7_fill_53178 cJ7_fill_53178 4 none, .static yX6_headOf, .initialized RX6, .code yX6_headOf cX6_headOf 2 (some .int), .methodLink RX0 80 yX0_uncovered, .instanceMethod yX0_uncovered, .selects RX0 yX0_uncovered yX0_uncovered, .initialized RX0, .code yX0_uncovered cX0_uncovered 6 (some .int), .fieldLink RX0 9 "StackRuns$Heads" "exits" "[I", .static yX6_hasBit, .code yX6_hasBit cX6_hasBit 2 (some .boolean)] ++ wsX00 ++ wsX40)
def wsX0_leadingTo : List Cond := .code yX0_leadingTo cX0_leadingTo 4 (some .int) :: ([.fieldLink RX0 15 "StackRuns$Heads" "ahead" "[I"] ++ wsX00)
def wsX0_findCircles : List Cond := .code yX0_findCircles cX0_findCircles 6 none :: ([.fieldLink RX0 15 "StackRuns$Heads" "ahead" "[I", .fieldLink RX0 21 "StackRuns$Heads" "circling" "I", .fieldLink RX0 25 "StackRuns$Heads" "boundless" "I", .static yX6_headOf, .initialized RX6, .code yX6_headOf cX6_headOf 2 (some .int), .methodLink RX0 91 yX0_leadingTo, .instanceMethod yX0_leadingTo, .selects RX0 yX0_leadingTo yX0_leadingTo, .initialized RX0, .code yX0_leadingTo cX0_leadingTo 4 (some .int)] ++ wsX00 ++ wsX40)
def wsX0_raiseBy : List Cond := .code yX0_raiseBy cX0_raiseBy 7 (some .boolean) :: ([.fieldLink RX0 18 "StackRuns$Heads" "tallest" "[I", .methodLink RX0 99 Lib.Math.max.name, .static Lib.Math.max.name, .initialized "java/lang/Math", .code Lib.Math.max.name Lib.Math.max.code 2 (some .int), .static yX6_headOf, .initialized RX6, .code yX6_headOf cX6_headOf 2 (some .int), .methodLink RX0 80 yX0_uncovered, .instanceMethod yX0_uncovered, .selects RX0 yX0_uncovered yX0_uncovered, .initialized RX0, .code yX0_uncovered cX0_uncovered 6 (some .int), .fieldLink RX0 9 "StackRuns$Heads" "exits" "[I", .static yX6_hasBit, .code yX6_hasBit cX6_hasBit 2 (some .boolean)] ++ wsX40 ++ wsX00)
def wsX0_findTallest_r1 : List Cond := [Cond.fieldLink RX0 18 "StackRuns$Heads" "tallest" "[I", Cond.fieldLink RX0 25 "StackRuns$Heads" "boundless" "I", Cond.methodLink RX0 58 yJ7_fill_53178, Cond.static yJ7_fill_53178, Cond.initialized RJ7, Cond.code yJ7_fill_53178 cJ7_fill_53178 4 none, Cond.static yX6_hasBit, Cond.initialized RX6, Cond.code yX6_hasBit cX6_hasBit 2 (some .boolean), Cond.methodLink RX0 95 yX0_raiseBy, Cond.instanceMethod yX0_raiseBy, Cond.selects RX0 yX0_raiseBy yX0_raiseBy, Cond.initialized RX0, Cond.code yX0_raiseBy cX0_raiseBy 7 (some .boolean), Cond.methodLink RX0 99 Lib.Math.max.name, Cond.static Lib.Math.max.name, Cond.initialized "java/lang/Math", Cond.code Lib.Math.max.name Lib.Math.max.code 2 (some .int), Cond.static yX6_headOf, Cond.code yX6_headOf cX6_headOf 2 (some .int), Cond.methodLink RX0 80 yX0_uncovered, Cond.instanceMethod yX0_uncovered, Cond.selects RX0 yX0_uncovered yX0_uncovered, Cond.code yX0_uncovered cX0_uncovered 6 (some .int)]
def wsX0_findTallest_r2 : List Cond := [Cond.fieldLink RX0 9 "StackRuns$Heads" "exits" "[I"]
def wsX0_findTallest : List Cond := .code yX0_findTallest cX0_findTallest 6 none :: ((wsX0_findTallest_r1 ++ wsX0_findTallest_r2) ++ wsX00 ++ wsX40)
def wsX0_renew_r1 : List Cond := [Cond.fieldLink RX0 28 "StackRuns$Heads" "seen" "I", Cond.methodLink RX0 36 yX0_findExits, Cond.instanceMethod yX0_findExits, Cond.selects RX0 yX0_findExits yX0_findExits, Cond.initialized RX0, Cond.code yX0_findExits cX0_findExits 4 none, Cond.fieldLink RX0 9 "StackRuns$Heads" "exits" "[I", Cond.constantLong RX0 56 (9000000000000000000), Cond.methodLink RX0 40 yX0_findAhead, Cond.instanceMethod yX0_findAhead, Cond.selects RX0 yX0_findAhead yX0_findAhead, Cond.code yX0_findAhead cX0_findAhead 4 none, Cond.fieldLink RX0 15 "StackRuns$Heads" "ahead" "[I", Cond.methodLink RX0 58 yJ7_fill_53178, Cond.static yJ7_fill_53178, Cond.initialized RJ7, Cond.code yJ7_fill_53178 cJ7_fill_53178 4 none, Cond.static yX6_headOf, Cond.initialized RX6, Cond.code yX6_headOf cX6_headOf 2 (some .int), Cond.methodLink RX0 80 yX0_uncovered, Cond.instanceMethod yX0_uncovered, Cond.selects RX0 yX0_uncovered yX0_uncovered, Cond.code yX0_uncovered cX0_uncovered 6 (some .int)]
def wsX0_renew_r2 : List Cond := [Cond.static yX6_hasBit, Cond.code yX6_hasBit cX6_hasBit 2 (some .boolean), Cond.methodLink RX0 44 yX0_findCircles, Cond.instanceMethod yX0_findCircles, Cond.selects RX0 yX0_findCircles yX0_findCircles, Cond.code yX0_findCircles cX0_findCircles 6 none, Cond.fieldLink RX0 21 "StackRuns$Heads" "circling" "I", Cond.fieldLink RX0 25 "StackRuns$Heads" "boundless" "I", Cond.methodLink RX0 91 yX0_leadingTo, Cond.instanceMethod yX0_leadingTo, Cond.selects RX0 yX0_leadingTo yX0_leadingTo, Cond.code yX0_leadingTo cX0_leadingTo 4 (some .int), Cond.methodLink RX0 47 yX0_findTallest, Cond.instanceMethod yX0_findTallest, Cond.selects RX0 yX0_findTallest yX0_findTallest, Cond.code yX0_findTallest cX0_findTallest 6 none, Cond.fieldLink RX0 18 "StackRuns$Heads" "tallest" "[I", Cond.methodLink RX0 95 yX0_raiseBy, Cond.instanceMethod yX0_raiseBy, Cond.selects RX0 yX0_raiseBy yX0_raiseBy, Cond.code yX0_raiseBy cX0_raiseBy 7 (some .boolean), Cond.methodLink RX0 99 Lib.Math.max.name, Cond.static Lib.Math.max.name, Cond.initialized "java/lang/Math"]
def wsX0_renew_r3 : List Cond := [Cond.code Lib.Math.max.name Lib.Math.max.code 2 (some .int)]
def wsX0_renew : List Cond := .code yX0_renew cX0_renew 3 none :: ((wsX0_renew_r1 ++ (wsX0_renew_r2 ++ wsX0_renew_r3)) ++ wsX00 ++ wsX40 ++ wsX30)
def wsX0_headsOf : List Cond := .code yX0_headsOf cX0_headsOf 5 (some .int) :: ([.static yX6_hasBit, .initialized RX6, .code yX6_hasBit cX6_hasBit 2 (some .boolean), .static yX6_headOf, .code yX6_headOf cX6_headOf 2 (some .int)])
def wsX0_allExits : List Cond := .code yX0_allExits cX0_allExits 5 (some .int) :: ([.fieldLink RX0 9 "StackRuns$Heads" "exits" "[I", .static yX6_hasBit, .initialized RX6, .code yX6_hasBit cX6_hasBit 2 (some .boolean), .static yX6_headOf, .code yX6_headOf cX6_headOf 2 (some .int)] ++ wsX00)
def wsX0_goOnFrom : List Cond := .code yX0_goOnFrom cX0_goOnFrom 4 (some .boolean) :: ([.fieldLink RX0 21 "StackRuns$Heads" "circling" "I", .methodLink RX0 115 yX0_headsOf, .instanceMethod yX0_headsOf, .selects RX0 yX0_headsOf yX0_headsOf, .initialized RX0, .code yX0_headsOf cX0_headsOf 5 (some .int), .static yX6_hasBit, .initialized RX6, .code yX6_hasBit cX6_hasBit 2 (some .boolean), .static yX6_headOf, .code yX6_headOf cX6_headOf 2 (some .int), .methodLink RX0 118 yX0_allExits, .instanceMethod yX0_allExits, .selects RX0 yX0_allExits yX0_allExits, .code yX0_allExits cX0_allExits 5 (some .int), .fieldLink RX0 9 "StackRuns$Heads" "exits" "[I"] ++ wsX50 ++ wsX00)
def wsX0_topFrom : List Cond := .code yX0_topFrom cX0_topFrom 7 (some .int) :: ([.fieldLink RX0 25 "StackRuns$Heads" "boundless" "I", .fieldLink RX0 18 "StackRuns$Heads" "tallest" "[I", .methodLink RX0 99 Lib.Math.max.name, .static Lib.Math.max.name, .initialized "java/lang/Math", .code Lib.Math.max.name Lib.Math.max.code 2 (some .int), .methodLink RX0 115 yX0_headsOf, .instanceMethod yX0_headsOf, .selects RX0 yX0_headsOf yX0_headsOf, .initialized RX0, .code yX0_headsOf cX0_headsOf 5 (some .int), .static yX6_hasBit, .initialized RX6, .code yX6_hasBit cX6_hasBit 2 (some .boolean), .static yX6_headOf, .code yX6_headOf cX6_headOf 2 (some .int), .methodLink RX0 118 yX0_allExits, .instanceMethod yX0_allExits, .selects RX0 yX0_allExits yX0_allExits, .code yX0_allExits cX0_allExits 5 (some .int), .fieldLink RX0 9 "StackRuns$Heads" "exits" "[I"] ++ wsX50 ++ wsX00)
def wsX1_init : List Cond := .code yX1_init cX1_init 1 none :: ([.methodLink RX1 3 objectInit, .instanceMethod objectInit, .code objectInit ⟨#[0xb1]⟩ 1 none, .arrayClass .long, .fieldLink RX1 9 "StackRuns$Ladder" "rows" "[J"] ++ wsX10)
def wsX2_isLast : List Cond := .code yX2_isLast cX2_isLast 2 (some .boolean) :: ([.fieldLink RX2 15 "StackRuns$Net" "lastPlaces" "I", .static yX6_hasBit, .initialized RX6, .code yX6_hasBit cX6_hasBit 2 (some .boolean)] ++ wsX20)
def wsX1_start : List Cond := .code yX1_start cX1_start 3 none :: ([.fieldLink RX1 9 "StackRuns$Ladder" "rows" "[J", .constantLong RX1 21 (9000000000000000000), .methodLink RX1 15 yX2_isLast, .instanceMethod yX2_isLast, .selects RX2 yX2_isLast yX2_isLast, .initialized RX2, .code yX2_isLast cX2_isLast 2 (some .boolean), .fieldLink RX2 15 "StackRuns$Net" "lastPlaces" "I", .static yX6_hasBit, .initialized RX6, .code yX6_hasBit cX6_hasBit 2 (some .boolean)] ++ wsX10 ++ wsX20)
def wsX2_hasHop : List Cond := .code yX2_hasHop cX2_hasHop 4 (some .boolean) :: ([.fieldLink RX2 18 "StackRuns$Net" "hops" "[I", .static yX6_hasBit, .initialized RX6, .code yX6_hasBit cX6_hasBit 2 (some .boolean)] ++ wsX20)
def wsX2_through : List Cond := .code yX2_through cX2_through 4 (some .long) :: ([.fieldLink RX2 22 "StackRuns$Net" "cost" "[J", .constantLong RX2 87 (9000000000000000000), .static yX6_headOf, .initialized RX6, .code yX6_headOf cX6_headOf 2 (some .int), .methodLink RX2 83 yX2_hasHop, .instanceMethod yX2_hasHop, .selects RX2 yX2_hasHop yX2_hasHop, .initialized RX2, .code yX2_hasHop cX2_hasHop 4 (some .boolean), .fieldLink RX2 18 "StackRuns$Net" "hops" "[I", .static yX6_hasBit, .code yX6_hasBit cX6_hasBit 2 (some .boolean)] ++ wsX20)
def wsX6_sum : List Cond := .code yX6_sum cX6_sum 4 (some .long) :: ([.constantLong RX6 185 (9000000000000000000), .constantLong RX6 147 (1000000000000000), .methodLink RX6 189 Lib.MathLoose.min_long.x, .static Lib.MathLoose.min_long.x, .initialized "java/lang/Math", .code Lib.MathLoose.min_long.x Lib.MathLoose.min_long.code 4 (some .long)])
def wsX1_across_r1 : List Cond := [Cond.constantLong RX1 21 (9000000000000000000), Cond.fieldLink RX1 9 "StackRuns$Ladder" "rows" "[J", Cond.methodLink RX1 45 Lib.MathLoose.min_long.x, Cond.static Lib.MathLoose.min_long.x, Cond.initialized "java/lang/Math", Cond.code Lib.MathLoose.min_long.x Lib.MathLoose.min_long.code 4 (some .long), Cond.methodLink RX1 37 yX2_through, Cond.instanceMethod yX2_through, Cond.selects RX2 yX2_through yX2_through, Cond.initialized RX2, Cond.code yX2_through cX2_through 4 (some .long), Cond.fieldLink RX2 22 "StackRuns$Net" "cost" "[J", Cond.constantLong RX2 87 (9000000000000000000), Cond.static yX6_headOf, Cond.initialized RX6, Cond.code yX6_headOf cX6_headOf 2 (some .int), Cond.methodLink RX2 83 yX2_hasHop, Cond.instanceMethod yX2_hasHop, Cond.selects RX2 yX2_hasHop yX2_hasHop, Cond.code yX2_hasHop cX2_hasHop 4 (some .boolean), Cond.fieldLink RX2 18 "StackRuns$Net" "hops" "[I", Cond.static yX6_hasBit, Cond.code yX6_hasBit cX6_hasBit 2 (some .boolean), Cond.static yX6_sum]
def wsX1_across_r2 : List Cond := [Cond.code yX6_sum cX6_sum 4 (some .long), Cond.constantLong RX6 185 (9000000000000000000), Cond.constantLong RX6 147 (1000000000000000), Cond.methodLink RX6 189 Lib.MathLoose.min_long.x]
def wsX1_across : List Cond := .code yX1_across cX1_across 10 (some .long) :: ((wsX1_across_r1 ++ wsX1_across_r2) ++ wsX10 ++ wsX20)
def wsX1_build_r1 : List Cond := [Cond.fieldLink RX1 9 "StackRuns$Ladder" "rows" "[J", Cond.methodLink RX1 33 yX1_across, Cond.instanceMethod yX1_across, Cond.selects RX1 yX1_across yX1_across, Cond.initialized RX1, Cond.code yX1_across cX1_across 10 (some .long), Cond.constantLong RX1 21 (9000000000000000000), Cond.methodLink RX1 45 Lib.MathLoose.min_long.x, Cond.static Lib.MathLoose.min_long.x, Cond.initialized "java/lang/Math", Cond.code Lib.MathLoose.min_long.x Lib.MathLoose.min_long.code 4 (some .long), Cond.methodLink RX1 37 yX2_through, Cond.instanceMethod yX2_through, Cond.selects RX2 yX2_through yX2_through, Cond.initialized RX2, Cond.code yX2_through cX2_through 4 (some .long), Cond.fieldLink RX2 22 "StackRuns$Net" "cost" "[J", Cond.constantLong RX2 87 (9000000000000000000), Cond.static yX6_headOf, Cond.initialized RX6, Cond.code yX6_headOf cX6_headOf 2 (some .int), Cond.methodLink RX2 83 yX2_hasHop, Cond.instanceMethod yX2_hasHop, Cond.selects RX2 yX2_hasHop yX2_hasHop]
def wsX1_build_r2 : List Cond := [Cond.code yX2_hasHop cX2_hasHop 4 (some .boolean), Cond.fieldLink RX2 18 "StackRuns$Net" "hops" "[I", Cond.static yX6_hasBit, Cond.code yX6_hasBit cX6_hasBit 2 (some .boolean), Cond.static yX6_sum, Cond.code yX6_sum cX6_sum 4 (some .long), Cond.constantLong RX6 185 (9000000000000000000), Cond.constantLong RX6 147 (1000000000000000), Cond.methodLink RX6 189 Lib.MathLoose.min_long.x]
def wsX1_build : List Cond := .code yX1_build cX1_build 6 none :: ((wsX1_build_r1 ++ wsX1_build_r2) ++ wsX50 ++ wsX10 ++ wsX20)
def wsX1_after_r1 : List Cond := [Cond.fieldLink RX1 9 "StackRuns$Ladder" "rows" "[J", Cond.constantLong RX1 21 (9000000000000000000), Cond.methodLink RX1 45 Lib.MathLoose.min_long.x, Cond.static Lib.MathLoose.min_long.x, Cond.initialized "java/lang/Math", Cond.code Lib.MathLoose.min_long.x Lib.MathLoose.min_long.code 4 (some .long), Cond.methodLink RX1 33 yX1_across, Cond.instanceMethod yX1_across, Cond.selects RX1 yX1_across yX1_across, Cond.initialized RX1, Cond.code yX1_across cX1_across 10 (some .long), Cond.methodLink RX1 37 yX2_through, Cond.instanceMethod yX2_through, Cond.selects RX2 yX2_through yX2_through, Cond.initialized RX2, Cond.code yX2_through cX2_through 4 (some .long), Cond.fieldLink RX2 22 "StackRuns$Net" "cost" "[J", Cond.constantLong RX2 87 (9000000000000000000), Cond.static yX6_headOf, Cond.initialized RX6, Cond.code yX6_headOf cX6_headOf 2 (some .int), Cond.methodLink RX2 83 yX2_hasHop, Cond.instanceMethod yX2_hasHop, Cond.selects RX2 yX2_hasHop yX2_hasHop]
def wsX1_after_r2 : List Cond := [Cond.code yX2_hasHop cX2_hasHop 4 (some .boolean), Cond.fieldLink RX2 18 "StackRuns$Net" "hops" "[I", Cond.static yX6_hasBit, Cond.code yX6_hasBit cX6_hasBit 2 (some .boolean), Cond.static yX6_sum, Cond.code yX6_sum cX6_sum 4 (some .long), Cond.constantLong RX6 185 (9000000000000000000), Cond.constantLong RX6 147 (1000000000000000), Cond.methodLink RX6 189 Lib.MathLoose.min_long.x]
def wsX1_after : List Cond := .code yX1_after cX1_after 11 (some .long) :: ((wsX1_after_r1 ++ wsX1_after_r2) ++ wsX40 ++ wsX10 ++ wsX20)
def wsX2_init : List Cond := .code yX2_init cX2_init 1 none :: ([.methodLink RX2 3 objectInit, .instanceMethod objectInit, .code objectInit ⟨#[0xb1]⟩ 1 none, .fieldLink RX2 9 "StackRuns$Net" "links" "I", .fieldLink RX2 15 "StackRuns$Net" "lastPlaces" "I", .arrayClass .int, .fieldLink RX2 18 "StackRuns$Net" "hops" "[I", .arrayClass .long, .fieldLink RX2 22 "StackRuns$Net" "cost" "[J", .fieldLink RX2 26 "StackRuns$Net" "stale" "Z", .fieldLink RX2 30 "StackRuns$Net" "seen" "I"] ++ wsX20)
def wsX2_restart : List Cond := .code yX2_restart cX2_restart 1 none :: ([.fieldLink RX2 9 "StackRuns$Net" "links" "I", .fieldLink RX2 15 "StackRuns$Net" "lastPlaces" "I", .fieldLink RX2 18 "StackRuns$Net" "hops" "[I", .fieldLink RX2 26 "StackRuns$Net" "stale" "Z", .methodLink RX2 33 yJ7_fill_53178, .static yJ7_fill_53178, .initialized RJ7, .code yJ7_fill_53178 cJ7_fill_53178 4 none] ++ wsX20)
def wsX2_join : List Cond := .code yX2_join cX2_join 4 (some .int) :: ([.fieldLink RX2 18 "StackRuns$Net" "hops" "[I", .fieldLink RX2 9 "StackRuns$Net" "links" "I", .fieldLink RX2 26 "StackRuns$Net" "stale" "Z"] ++ wsX20)
def wsX2_mark : List Cond := .code yX2_mark cX2_mark 4 (some .boolean) :: ([.fieldLink RX2 15 "StackRuns$Net" "lastPlaces" "I", .methodLink RX2 39 yX2_isLast, .instanceMethod yX2_isLast, .selects RX2 yX2_isLast yX2_isLast, .initialized RX2, .code yX2_isLast cX2_isLast 2 (some .boolean), .static yX6_hasBit, .initialized RX6, .code yX6_hasBit cX6_hasBit 2 (some .boolean)] ++ wsX20)
def wsX2_allHops : List Cond := .code yX2_allHops cX2_allHops 5 (some .int) :: ([.fieldLink RX2 18 "StackRuns$Net" "hops" "[I", .static yX6_hasBit, .initialized RX6, .code yX6_hasBit cX6_hasBit 2 (some .boolean)] ++ wsX20)
def wsX2_holds : List Cond := .code yX2_holds cX2_holds 4 (some .boolean) :: ([.fieldLink RX2 15 "StackRuns$Net" "lastPlaces" "I", .methodLink RX2 58 yX2_allHops, .instanceMethod yX2_allHops, .selects RX2 yX2_allHops yX2_allHops, .initialized RX2, .code yX2_allHops cX2_allHops 5 (some .int), .fieldLink RX2 18 "StackRuns$Net" "hops" "[I", .static yX6_hasBit, .initialized RX6, .code yX6_hasBit cX6_hasBit 2 (some .boolean)] ++ wsX50 ++ wsX20)
def wsX2_startFrom : List Cond := .code yX2_startFrom cX2_startFrom 5 none :: ([.fieldLink RX2 22 "StackRuns$Net" "cost" "[J", .constantLong RX2 87 (9000000000000000000), .methodLink RX2 83 yX2_hasHop, .instanceMethod yX2_hasHop, .selects RX2 yX2_hasHop yX2_hasHop, .initialized RX2, .code yX2_hasHop cX2_hasHop 4 (some .boolean), .fieldLink RX2 18 "StackRuns$Net" "hops" "[I", .static yX6_hasBit, .initialized RX6, .code yX6_hasBit cX6_hasBit 2 (some .boolean)] ++ wsX20 ++ wsX30)
def wsX2_lower : List Cond := .code yX2_lower cX2_lower 5 (some .boolean) :: ([.fieldLink RX2 22 "StackRuns$Net" "cost" "[J"] ++ wsX20)
def wsX2_lowerRow_r1 : List Cond := [Cond.methodLink RX2 116 yX2_through, Cond.instanceMethod yX2_through, Cond.selects RX2 yX2_through yX2_through, Cond.initialized RX2, Cond.code yX2_through cX2_through 4 (some .long), Cond.fieldLink RX2 22 "StackRuns$Net" "cost" "[J", Cond.constantLong RX2 87 (9000000000000000000), Cond.static yX6_headOf, Cond.initialized RX6, Cond.code yX6_headOf cX6_headOf 2 (some .int), Cond.methodLink RX2 83 yX2_hasHop, Cond.instanceMethod yX2_hasHop, Cond.selects RX2 yX2_hasHop yX2_hasHop, Cond.code yX2_hasHop cX2_hasHop 4 (some .boolean), Cond.fieldLink RX2 18 "StackRuns$Net" "hops" "[I", Cond.static yX6_hasBit, Cond.code yX6_hasBit cX6_hasBit 2 (some .boolean), Cond.static yX6_sum, Cond.code yX6_sum cX6_sum 4 (some .long), Cond.constantLong RX6 185 (9000000000000000000), Cond.constantLong RX6 147 (1000000000000000), Cond.methodLink RX6 189 Lib.MathLoose.min_long.x, Cond.static Lib.MathLoose.min_long.x, Cond.initialized "java/lang/Math"]
def wsX2_lowerRow_r2 : List Cond := [Cond.code Lib.MathLoose.min_long.x Lib.MathLoose.min_long.code 4 (some .long), Cond.methodLink RX2 108 yX2_lower, Cond.instanceMethod yX2_lower, Cond.selects RX2 yX2_lower yX2_lower, Cond.code yX2_lower cX2_lower 5 (some .boolean)]
def wsX2_lowerRow : List Cond := .code yX2_lowerRow cX2_lowerRow 8 (some .boolean) :: ((wsX2_lowerRow_r1 ++ wsX2_lowerRow_r2) ++ wsX20)
def wsX2_lowerBy_r1 : List Cond := [Cond.fieldLink RX2 22 "StackRuns$Net" "cost" "[J", Cond.constantLong RX2 87 (9000000000000000000), Cond.static yX6_headOf, Cond.initialized RX6, Cond.code yX6_headOf cX6_headOf 2 (some .int), Cond.static yX6_sum, Cond.code yX6_sum cX6_sum 4 (some .long), Cond.constantLong RX6 185 (9000000000000000000), Cond.constantLong RX6 147 (1000000000000000), Cond.methodLink RX6 189 Lib.MathLoose.min_long.x, Cond.static Lib.MathLoose.min_long.x, Cond.initialized "java/lang/Math", Cond.code Lib.MathLoose.min_long.x Lib.MathLoose.min_long.code 4 (some .long), Cond.methodLink RX2 108 yX2_lower, Cond.instanceMethod yX2_lower, Cond.selects RX2 yX2_lower yX2_lower, Cond.initialized RX2, Cond.code yX2_lower cX2_lower 5 (some .boolean), Cond.methodLink RX2 112 yX2_lowerRow, Cond.instanceMethod yX2_lowerRow, Cond.selects RX2 yX2_lowerRow yX2_lowerRow, Cond.code yX2_lowerRow cX2_lowerRow 8 (some .boolean), Cond.methodLink RX2 116 yX2_through, Cond.instanceMethod yX2_through]
def wsX2_lowerBy_r2 : List Cond := [Cond.selects RX2 yX2_through yX2_through, Cond.code yX2_through cX2_through 4 (some .long), Cond.methodLink RX2 83 yX2_hasHop, Cond.instanceMethod yX2_hasHop, Cond.selects RX2 yX2_hasHop yX2_hasHop, Cond.code yX2_hasHop cX2_hasHop 4 (some .boolean), Cond.fieldLink RX2 18 "StackRuns$Net" "hops" "[I", Cond.static yX6_hasBit, Cond.code yX6_hasBit cX6_hasBit 2 (some .boolean)]
def wsX2_lowerBy : List Cond := .code yX2_lowerBy cX2_lowerBy 9 (some .boolean) :: ((wsX2_lowerBy_r1 ++ wsX2_lowerBy_r2) ++ wsX40 ++ wsX20)
def wsX2_renew_r1 : List Cond := [Cond.fieldLink RX2 26 "StackRuns$Net" "stale" "Z", Cond.fieldLink RX2 30 "StackRuns$Net" "seen" "I", Cond.fieldLink RX2 22 "StackRuns$Net" "cost" "[J", Cond.methodLink RX2 67 yX2_startFrom, Cond.instanceMethod yX2_startFrom, Cond.selects RX2 yX2_startFrom yX2_startFrom, Cond.initialized RX2, Cond.code yX2_startFrom cX2_startFrom 5 none, Cond.constantLong RX2 87 (9000000000000000000), Cond.methodLink RX2 83 yX2_hasHop, Cond.instanceMethod yX2_hasHop, Cond.selects RX2 yX2_hasHop yX2_hasHop, Cond.code yX2_hasHop cX2_hasHop 4 (some .boolean), Cond.fieldLink RX2 18 "StackRuns$Net" "hops" "[I", Cond.static yX6_hasBit, Cond.initialized RX6, Cond.code yX6_hasBit cX6_hasBit 2 (some .boolean), Cond.methodLink RX2 74 yX2_lowerBy, Cond.instanceMethod yX2_lowerBy, Cond.selects RX2 yX2_lowerBy yX2_lowerBy, Cond.code yX2_lowerBy cX2_lowerBy 9 (some .boolean), Cond.static yX6_headOf, Cond.code yX6_headOf cX6_headOf 2 (some .int), Cond.static yX6_sum]
def wsX2_renew_r2 : List Cond := [Cond.code yX6_sum cX6_sum 4 (some .long), Cond.constantLong RX6 185 (9000000000000000000), Cond.constantLong RX6 147 (1000000000000000), Cond.methodLink RX6 189 Lib.MathLoose.min_long.x, Cond.static Lib.MathLoose.min_long.x, Cond.initialized "java/lang/Math", Cond.code Lib.MathLoose.min_long.x Lib.MathLoose.min_long.code 4 (some .long), Cond.methodLink RX2 108 yX2_lower, Cond.instanceMethod yX2_lower, Cond.selects RX2 yX2_lower yX2_lower, Cond.code yX2_lower cX2_lower 5 (some .boolean), Cond.methodLink RX2 112 yX2_lowerRow, Cond.instanceMethod yX2_lowerRow, Cond.selects RX2 yX2_lowerRow yX2_lowerRow, Cond.code yX2_lowerRow cX2_lowerRow 8 (some .boolean), Cond.methodLink RX2 116 yX2_through, Cond.instanceMethod yX2_through, Cond.selects RX2 yX2_through yX2_through, Cond.code yX2_through cX2_through 4 (some .long)]
def wsX2_renew : List Cond := .code yX2_renew cX2_renew 6 none :: ((wsX2_renew_r1 ++ wsX2_renew_r2) ++ wsX20 ++ wsX40 ++ wsX30)
def wsX3_init : List Cond := .code yX3_init cX3_init 1 none :: ([.methodLink RX3 3 objectInit, .instanceMethod objectInit, .code objectInit ⟨#[0xb1]⟩ 1 none, .arrayClass .long, .fieldLink RX3 9 "StackRuns$Pops" "least" "[J", .fieldLink RX3 15 "StackRuns$Pops" "seen" "I"] ++ wsX30)
def wsJ7_fill_d0a16 : List Cond := .code yJ7_fill_d0a16 cJ7_fill_d0a16 5 none :: ([])
def wsX3_lower : List Cond := .code yX3_lower cX3_lower 4 (some .boolean) :: ([.fieldLink RX3 9 "StackRuns$Pops" "least" "[J"] ++ wsX30)
def wsX3_lowerRow : List Cond := .code yX3_lowerRow cX3_lowerRow 8 (some .boolean) :: ([.fieldLink RX3 9 "StackRuns$Pops" "least" "[J", .static yX6_sum, .initialized RX6, .code yX6_sum cX6_sum 4 (some .long), .constantLong RX6 185 (9000000000000000000), .constantLong RX6 147 (1000000000000000), .methodLink RX6 189 Lib.MathLoose.min_long.x, .static Lib.MathLoose.min_long.x, .initialized "java/lang/Math", .code Lib.MathLoose.min_long.x Lib.MathLoose.min_long.code 4 (some .long), .methodLink RX3 49 yX3_lower, .instanceMethod yX3_lower, .selects RX3 yX3_lower yX3_lower, .initialized RX3, .code yX3_lower cX3_lower 4 (some .boolean)] ++ wsX40 ++ wsX30)
def wsX3_lowerBy : List Cond := .code yX3_lowerBy cX3_lowerBy 10 (some .boolean) :: ([.fieldLink RX3 9 "StackRuns$Pops" "least" "[J", .constantLong RX3 24 (9000000000000000000), .methodLink RX3 49 yX3_lower, .instanceMethod yX3_lower, .selects RX3 yX3_lower yX3_lower, .initialized RX3, .code yX3_lower cX3_lower 4 (some .boolean), .static yX6_headOf, .initialized RX6, .code yX6_headOf cX6_headOf 2 (some .int), .static yX6_sum, .code yX6_sum cX6_sum 4 (some .long), .constantLong RX6 185 (9000000000000000000), .constantLong RX6 147 (1000000000000000), .methodLink RX6 189 Lib.MathLoose.min_long.x, .static Lib.MathLoose.min_long.x, .initialized "java/lang/Math", .code Lib.MathLoose.min_long.x Lib.MathLoose.min_long.code 4 (some .long), .methodLink RX3 67 yX3_lowerRow, .instanceMethod yX3_lowerRow, .selects RX3 yX3_lowerRow yX3_lowerRow, .code yX3_lowerRow cX3_lowerRow 8 (some .boolean)] ++ wsX40 ++ wsX30)
def wsX3_renew_r1 : List Cond := [Cond.fieldLink RX3 15 "StackRuns$Pops" "seen" "I", Cond.fieldLink RX3 9 "StackRuns$Pops" "least" "[J", Cond.constantLong RX3 24 (9000000000000000000), Cond.methodLink RX3 26 yJ7_fill_d0a16, Cond.static yJ7_fill_d0a16, Cond.initialized RJ7, Cond.code yJ7_fill_d0a16 cJ7_fill_d0a16 5 none, Cond.methodLink RX3 35 yX3_lowerBy, Cond.instanceMethod yX3_lowerBy, Cond.selects RX3 yX3_lowerBy yX3_lowerBy, Cond.initialized RX3, Cond.code yX3_lowerBy cX3_lowerBy 10 (some .boolean), Cond.methodLink RX3 49 yX3_lower, Cond.instanceMethod yX3_lower, Cond.selects RX3 yX3_lower yX3_lower, Cond.code yX3_lower cX3_lower 4 (some .boolean), Cond.static yX6_headOf, Cond.initialized RX6, Cond.code yX6_headOf cX6_headOf 2 (some .int), Cond.static yX6_sum, Cond.code yX6_sum cX6_sum 4 (some .long), Cond.constantLong RX6 185 (9000000000000000000), Cond.constantLong RX6 147 (1000000000000000), Cond.methodLink RX6 189 Lib.MathLoose.min_long.x]
def wsX3_renew_r2 : List Cond := [Cond.static Lib.MathLoose.min_long.x, Cond.initialized "java/lang/Math", Cond.code Lib.MathLoose.min_long.x Lib.MathLoose.min_long.code 4 (some .long), Cond.methodLink RX3 67 yX3_lowerRow, Cond.instanceMethod yX3_lowerRow, Cond.selects RX3 yX3_lowerRow yX3_lowerRow, Cond.code yX3_lowerRow cX3_lowerRow 8 (some .boolean)]
def wsX3_renew : List Cond := .code yX3_renew cX3_renew 5 none :: ((wsX3_renew_r1 ++ wsX3_renew_r2) ++ wsX30 ++ wsX40)
def wsX4_init : List Cond := .code yX4_init cX4_init 1 none :: ([.methodLink RX4 3 objectInit, .instanceMethod objectInit, .code objectInit ⟨#[0xb1]⟩ 1 none, .fieldLink RX4 9 "StackRuns$Rules" "controls" "I", .fieldLink RX4 15 "StackRuns$Rules" "alphabet" "I", .fieldLink RX4 18 "StackRuns$Rules" "size" "I", .fieldLink RX4 21 "StackRuns$Rules" "stamp" "I", .arrayClass .int, .fieldLink RX4 24 "StackRuns$Rules" "head" "[I", .fieldLink RX4 28 "StackRuns$Rules" "to" "[I", .fieldLink RX4 31 "StackRuns$Rules" "top" "[I", .fieldLink RX4 34 "StackRuns$Rules" "below" "[I"] ++ wsX40)
def wsX4_restart : List Cond := .code yX4_restart cX4_restart 3 none :: ([.fieldLink RX4 9 "StackRuns$Rules" "controls" "I", .fieldLink RX4 15 "StackRuns$Rules" "alphabet" "I", .fieldLink RX4 18 "StackRuns$Rules" "size" "I", .fieldLink RX4 21 "StackRuns$Rules" "stamp" "I"] ++ wsX40)
def wsX4_isControl : List Cond := .code yX4_isControl cX4_isControl 2 (some .boolean) :: ([.fieldLink RX4 9 "StackRuns$Rules" "controls" "I"] ++ wsX40)
def wsX4_isSign : List Cond := .code yX4_isSign cX4_isSign 2 (some .boolean) :: ([.fieldLink RX4 15 "StackRuns$Rules" "alphabet" "I"] ++ wsX40)
def wsX4_add : List Cond := .code yX4_add cX4_add 5 (some .int) :: ([.fieldLink RX4 24 "StackRuns$Rules" "head" "[I", .fieldLink RX4 18 "StackRuns$Rules" "size" "I", .fieldLink RX4 28 "StackRuns$Rules" "to" "[I", .fieldLink RX4 31 "StackRuns$Rules" "top" "[I", .fieldLink RX4 34 "StackRuns$Rules" "below" "[I", .fieldLink RX4 21 "StackRuns$Rules" "stamp" "I"] ++ wsX40)
def wsX4_dropNewest : List Cond := .code yX4_dropNewest cX4_dropNewest 1 (some .int) :: ([.fieldLink RX4 18 "StackRuns$Rules" "size" "I", .fieldLink RX4 21 "StackRuns$Rules" "stamp" "I"] ++ wsX40)
def wsX4_matching : List Cond := .code yX4_matching cX4_matching 4 (some .int) :: ([.fieldLink RX4 18 "StackRuns$Rules" "size" "I", .fieldLink RX4 24 "StackRuns$Rules" "head" "[I"] ++ wsX40)
def wsX5_init : List Cond := .code yX5_init cX5_init 1 none :: ([.methodLink RX5 3 objectInit, .instanceMethod objectInit, .code objectInit ⟨#[0xb1]⟩ 1 none, .fieldLink RX5 9 "StackRuns$Stand" "control" "I", .fieldLink RX5 15 "StackRuns$Stand" "height" "I", .arrayClass .int, .fieldLink RX5 18 "StackRuns$Stand" "signs" "[I"] ++ wsX50)
def wsX5_restart : List Cond := .code yX5_restart cX5_restart 2 none :: ([.fieldLink RX5 9 "StackRuns$Stand" "control" "I", .fieldLink RX5 15 "StackRuns$Stand" "height" "I"] ++ wsX50)
def wsX5_cover : List Cond := .code yX5_cover cX5_cover 2 none :: ([.fieldLink RX5 18 "StackRuns$Stand" "signs" "[I", .fieldLink RX5 15 "StackRuns$Stand" "height" "I"] ++ wsX50)
def wsX5_head : List Cond := .code yX5_head cX5_head 1 (some .int) :: ([.fieldLink RX5 15 "StackRuns$Stand" "height" "I", .fieldLink RX5 9 "StackRuns$Stand" "control" "I", .fieldLink RX5 18 "StackRuns$Stand" "signs" "[I", .static yX6_headOf, .initialized RX6, .code yX6_headOf cX6_headOf 2 (some .int)] ++ wsX50)
def wsX5_hasRoom : List Cond := .code yX5_hasRoom cX5_hasRoom 3 (some .boolean) :: ([.fieldLink RX5 15 "StackRuns$Stand" "height" "I"] ++ wsX40 ++ wsX50)
def wsX5_change : List Cond := .code yX5_change cX5_change 3 none :: ([.fieldLink RX5 15 "StackRuns$Stand" "height" "I", .fieldLink RX5 9 "StackRuns$Stand" "control" "I", .methodLink RX5 31 yX5_cover, .instanceMethod yX5_cover, .selects RX5 yX5_cover yX5_cover, .initialized RX5, .code yX5_cover cX5_cover 2 none, .fieldLink RX5 18 "StackRuns$Stand" "signs" "[I"] ++ wsX50 ++ wsX40)
def wsX6_init_r1 : List Cond := [Cond.methodLink RX6 3 objectInit, Cond.instanceMethod objectInit, Cond.code objectInit ⟨#[0xb1]⟩ 1 none, Cond.classLink RX6 9 RX4, Cond.instantiable RX4 8, Cond.initialized RX4, Cond.fieldLink RX6 12 "StackRuns" "rules" "LStackRuns$Rules;", Cond.classLink RX6 16 RX5, Cond.instantiable RX5 3, Cond.initialized RX5, Cond.fieldLink RX6 19 "StackRuns" "here" "LStackRuns$Stand;", Cond.classLink RX6 23 RX2, Cond.fieldLink RX6 25 "StackRuns" "nets" "[LStackRuns$Net;", Cond.classLink RX6 29 RX3, Cond.instantiable RX3 2, Cond.initialized RX3, Cond.fieldLink RX6 32 "StackRuns" "pops" "LStackRuns$Pops;", Cond.classLink RX6 36 RX0, Cond.instantiable RX0 6, Cond.initialized RX0, Cond.fieldLink RX6 39 "StackRuns" "heads" "LStackRuns$Heads;", Cond.classLink RX6 43 RX1, Cond.instantiable RX1 1, Cond.initialized RX1]
def wsX6_init_r2 : List Cond := [Cond.fieldLink RX6 46 "StackRuns" "ladder" "LStackRuns$Ladder;", Cond.fieldLink RX6 50 "StackRuns" "sets" "I", Cond.instantiable RX2 6, Cond.initialized RX2, Cond.instanceMethod yX4_init, Cond.code yX4_init cX4_init 1 none, Cond.methodLink RX4 3 objectInit, Cond.fieldLink RX4 9 "StackRuns$Rules" "controls" "I", Cond.fieldLink RX4 15 "StackRuns$Rules" "alphabet" "I", Cond.fieldLink RX4 18 "StackRuns$Rules" "size" "I", Cond.fieldLink RX4 21 "StackRuns$Rules" "stamp" "I", Cond.arrayClass .int, Cond.fieldLink RX4 24 "StackRuns$Rules" "head" "[I", Cond.fieldLink RX4 28 "StackRuns$Rules" "to" "[I", Cond.fieldLink RX4 31 "StackRuns$Rules" "top" "[I", Cond.fieldLink RX4 34 "StackRuns$Rules" "below" "[I", Cond.instanceMethod yX5_init, Cond.code yX5_init cX5_init 1 none, Cond.methodLink RX5 3 objectInit, Cond.fieldLink RX5 9 "StackRuns$Stand" "control" "I", Cond.fieldLink RX5 15 "StackRuns$Stand" "height" "I", Cond.fieldLink RX5 18 "StackRuns$Stand" "signs" "[I", Cond.instanceMethod yX3_init, Cond.code yX3_init cX3_init 1 none]
def wsX6_init_r3 : List Cond := [Cond.methodLink RX3 3 objectInit, Cond.arrayClass .long, Cond.fieldLink RX3 9 "StackRuns$Pops" "least" "[J", Cond.fieldLink RX3 15 "StackRuns$Pops" "seen" "I", Cond.instanceMethod yX0_init, Cond.code yX0_init cX0_init 1 none, Cond.methodLink RX0 3 objectInit, Cond.fieldLink RX0 9 "StackRuns$Heads" "exits" "[I", Cond.fieldLink RX0 15 "StackRuns$Heads" "ahead" "[I", Cond.fieldLink RX0 18 "StackRuns$Heads" "tallest" "[I", Cond.fieldLink RX0 21 "StackRuns$Heads" "circling" "I", Cond.fieldLink RX0 25 "StackRuns$Heads" "boundless" "I", Cond.fieldLink RX0 28 "StackRuns$Heads" "seen" "I", Cond.instanceMethod yX1_init, Cond.code yX1_init cX1_init 1 none, Cond.methodLink RX1 3 objectInit, Cond.fieldLink RX1 9 "StackRuns$Ladder" "rows" "[J", Cond.instanceMethod yX2_init, Cond.code yX2_init cX2_init 1 none, Cond.methodLink RX2 3 objectInit, Cond.fieldLink RX2 9 "StackRuns$Net" "links" "I", Cond.fieldLink RX2 15 "StackRuns$Net" "lastPlaces" "I", Cond.fieldLink RX2 18 "StackRuns$Net" "hops" "[I", Cond.fieldLink RX2 22 "StackRuns$Net" "cost" "[J"]
def wsX6_init_r4 : List Cond := [Cond.fieldLink RX2 26 "StackRuns$Net" "stale" "Z", Cond.fieldLink RX2 30 "StackRuns$Net" "seen" "I"]
def wsX6_init : List Cond := .code yX6_init cX6_init 2 none :: ((wsX6_init_r1 ++ (wsX6_init_r2 ++ (wsX6_init_r3 ++ wsX6_init_r4))) ++ wsX40 ++ wsX60 ++ wsX50 ++ wsX30 ++ wsX00 ++ wsX10 ++ wsX20)
def wsX6_machine : List Cond := .code yX6_machine cX6_machine 4 (some .int) :: ([.fieldLink RX6 12 "StackRuns" "rules" "LStackRuns$Rules;", .fieldLink RX6 19 "StackRuns" "here" "LStackRuns$Stand;", .fieldLink RX6 50 "StackRuns" "sets" "I", .methodLink RX6 58 yX4_restart, .instanceMethod yX4_restart, .selects RX4 yX4_restart yX4_restart, .initialized RX4, .code yX4_restart cX4_restart 3 none, .fieldLink RX4 9 "StackRuns$Rules" "controls" "I", .fieldLink RX4 15 "StackRuns$Rules" "alphabet" "I", .fieldLink RX4 18 "StackRuns$Rules" "size" "I", .fieldLink RX4 21 "StackRuns$Rules" "stamp" "I", .methodLink RX6 62 yX5_restart, .instanceMethod yX5_restart, .selects RX5 yX5_restart yX5_restart, .initialized RX5, .code yX5_restart cX5_restart 2 none, .fieldLink RX5 9 "StackRuns$Stand" "control" "I", .fieldLink RX5 15 "StackRuns$Stand" "height" "I"] ++ wsX60 ++ wsX40 ++ wsX50)
def wsX6_rule_r1 : List Cond := [Cond.fieldLink RX6 12 "StackRuns" "rules" "LStackRuns$Rules;", Cond.methodLink RX6 65 yX4_isControl, Cond.instanceMethod yX4_isControl, Cond.selects RX4 yX4_isControl yX4_isControl, Cond.initialized RX4, Cond.code yX4_isControl cX4_isControl 2 (some .boolean), Cond.fieldLink RX4 9 "StackRuns$Rules" "controls" "I", Cond.methodLink RX6 69 yX4_isSign, Cond.instanceMethod yX4_isSign, Cond.selects RX4 yX4_isSign yX4_isSign, Cond.code yX4_isSign cX4_isSign 2 (some .boolean), Cond.fieldLink RX4 15 "StackRuns$Rules" "alphabet" "I", Cond.methodLink RX6 72 yX6_headOf, Cond.static yX6_headOf, Cond.initialized RX6, Cond.code yX6_headOf cX6_headOf 2 (some .int), Cond.methodLink RX6 76 yX4_add, Cond.instanceMethod yX4_add, Cond.selects RX4 yX4_add yX4_add, Cond.code yX4_add cX4_add 5 (some .int), Cond.fieldLink RX4 24 "StackRuns$Rules" "head" "[I", Cond.fieldLink RX4 18 "StackRuns$Rules" "size" "I", Cond.fieldLink RX4 28 "StackRuns$Rules" "to" "[I", Cond.fieldLink RX4 31 "StackRuns$Rules" "top" "[I"]
def wsX6_rule_r2 : List Cond := [Cond.fieldLink RX4 34 "StackRuns$Rules" "below" "[I", Cond.fieldLink RX4 21 "StackRuns$Rules" "stamp" "I"]
def wsX6_rule : List Cond := .code yX6_rule cX6_rule 7 (some .int) :: ((wsX6_rule_r1 ++ wsX6_rule_r2) ++ wsX60 ++ wsX40)
def wsX6_unrule : List Cond := .code yX6_unrule cX6_unrule 1 (some .int) :: ([.fieldLink RX6 12 "StackRuns" "rules" "LStackRuns$Rules;", .methodLink RX6 80 yX4_dropNewest, .instanceMethod yX4_dropNewest, .selects RX4 yX4_dropNewest yX4_dropNewest, .initialized RX4, .code yX4_dropNewest cX4_dropNewest 1 (some .int), .fieldLink RX4 18 "StackRuns$Rules" "size" "I", .fieldLink RX4 21 "StackRuns$Rules" "stamp" "I"] ++ wsX60 ++ wsX40)
def wsX6_stand : List Cond := .code yX6_stand cX6_stand 3 (some .int) :: ([.fieldLink RX6 12 "StackRuns" "rules" "LStackRuns$Rules;", .fieldLink RX6 19 "StackRuns" "here" "LStackRuns$Stand;", .methodLink RX6 65 yX4_isControl, .instanceMethod yX4_isControl, .selects RX4 yX4_isControl yX4_isControl, .initialized RX4, .code yX4_isControl cX4_isControl 2 (some .boolean), .fieldLink RX4 9 "StackRuns$Rules" "controls" "I", .methodLink RX6 62 yX5_restart, .instanceMethod yX5_restart, .selects RX5 yX5_restart yX5_restart, .initialized RX5, .code yX5_restart cX5_restart 2 none, .fieldLink RX5 9 "StackRuns$Stand" "control" "I", .fieldLink RX5 15 "StackRuns$Stand" "height" "I"] ++ wsX60 ++ wsX50 ++ wsX40)
def wsX6_push : List Cond := .code yX6_push cX6_push 2 (some .int) :: ([.fieldLink RX6 12 "StackRuns" "rules" "LStackRuns$Rules;", .fieldLink RX6 19 "StackRuns" "here" "LStackRuns$Stand;", .methodLink RX6 69 yX4_isSign, .instanceMethod yX4_isSign, .selects RX4 yX4_isSign yX4_isSign, .initialized RX4, .code yX4_isSign cX4_isSign 2 (some .boolean), .fieldLink RX4 15 "StackRuns$Rules" "alphabet" "I", .methodLink RX6 87 yX5_cover, .instanceMethod yX5_cover, .selects RX5 yX5_cover yX5_cover, .initialized RX5, .code yX5_cover cX5_cover 2 none, .fieldLink RX5 18 "StackRuns$Stand" "signs" "[I", .fieldLink RX5 15 "StackRuns$Stand" "height" "I"] ++ wsX60 ++ wsX50 ++ wsX40)
def wsX6_at : List Cond := .code yX6_at cX6_at 2 (some .int) :: ([.fieldLink RX6 19 "StackRuns" "here" "LStackRuns$Stand;"] ++ wsX60 ++ wsX50)
def wsX6_go_r1 : List Cond := [Cond.fieldLink RX6 12 "StackRuns" "rules" "LStackRuns$Rules;", Cond.fieldLink RX6 19 "StackRuns" "here" "LStackRuns$Stand;", Cond.methodLink RX6 100 yX5_head, Cond.instanceMethod yX5_head, Cond.selects RX5 yX5_head yX5_head, Cond.initialized RX5, Cond.code yX5_head cX5_head 1 (some .int), Cond.fieldLink RX5 15 "StackRuns$Stand" "height" "I", Cond.fieldLink RX5 9 "StackRuns$Stand" "control" "I", Cond.fieldLink RX5 18 "StackRuns$Stand" "signs" "[I", Cond.static yX6_headOf, Cond.initialized RX6, Cond.code yX6_headOf cX6_headOf 2 (some .int), Cond.methodLink RX6 102 yX5_hasRoom, Cond.instanceMethod yX5_hasRoom, Cond.selects RX5 yX5_hasRoom yX5_hasRoom, Cond.code yX5_hasRoom cX5_hasRoom 3 (some .boolean), Cond.methodLink RX6 106 yX5_change, Cond.instanceMethod yX5_change, Cond.selects RX5 yX5_change yX5_change, Cond.code yX5_change cX5_change 3 none, Cond.methodLink RX5 31 yX5_cover, Cond.instanceMethod yX5_cover, Cond.selects RX5 yX5_cover yX5_cover]
def wsX6_go_r2 : List Cond := [Cond.code yX5_cover cX5_cover 2 none]
def wsX6_go : List Cond := .code yX6_go cX6_go 2 (some .int) :: ((wsX6_go_r1 ++ wsX6_go_r2) ++ wsX60 ++ wsX40 ++ wsX50)
def wsX6_set : List Cond := .code yX6_set cX6_set 1 (some .int) :: ([.fieldLink RX6 50 "StackRuns" "sets" "I", .fieldLink RX6 25 "StackRuns" "nets" "[LStackRuns$Net;", .methodLink RX6 110 yX2_restart, .instanceMethod yX2_restart, .selects RX2 yX2_restart yX2_restart, .initialized RX2, .code yX2_restart cX2_restart 1 none, .fieldLink RX2 9 "StackRuns$Net" "links" "I", .fieldLink RX2 15 "StackRuns$Net" "lastPlaces" "I", .fieldLink RX2 18 "StackRuns$Net" "hops" "[I", .fieldLink RX2 26 "StackRuns$Net" "stale" "Z", .methodLink RX2 33 yJ7_fill_53178, .static yJ7_fill_53178, .initialized RJ7, .code yJ7_fill_53178 cJ7_fill_53178 4 none] ++ wsX60 ++ wsX20)
def wsX6_isSet : List Cond := .code yX6_isSet cX6_isSet 2 (some .boolean) :: ([.fieldLink RX6 50 "StackRuns" "sets" "I"] ++ wsX60)
def wsX6_isPlace : List Cond := .code yX6_isPlace cX6_isPlace 3 (some .boolean) :: ([.fieldLink RX6 12 "StackRuns" "rules" "LStackRuns$Rules;", .methodLink RX6 65 yX4_isControl, .instanceMethod yX4_isControl, .selects RX4 yX4_isControl yX4_isControl, .initialized RX4, .code yX4_isControl cX4_isControl 2 (some .boolean), .fieldLink RX4 9 "StackRuns$Rules" "controls" "I"] ++ wsX60 ++ wsX40)
def wsX6_placeOf : List Cond := .code yX6_placeOf cX6_placeOf 2 (some .int) :: ([])
def wsX6_link_r1 : List Cond := [Cond.fieldLink RX6 12 "StackRuns" "rules" "LStackRuns$Rules;", Cond.fieldLink RX6 25 "StackRuns" "nets" "[LStackRuns$Net;", Cond.methodLink RX6 112 yX6_isSet, Cond.instanceMethod yX6_isSet, Cond.selects RX6 yX6_isSet yX6_isSet, Cond.initialized RX6, Cond.code yX6_isSet cX6_isSet 2 (some .boolean), Cond.fieldLink RX6 50 "StackRuns" "sets" "I", Cond.methodLink RX6 115 yX6_isPlace, Cond.instanceMethod yX6_isPlace, Cond.selects RX6 yX6_isPlace yX6_isPlace, Cond.code yX6_isPlace cX6_isPlace 3 (some .boolean), Cond.methodLink RX6 65 yX4_isControl, Cond.instanceMethod yX4_isControl, Cond.selects RX4 yX4_isControl yX4_isControl, Cond.initialized RX4, Cond.code yX4_isControl cX4_isControl 2 (some .boolean), Cond.fieldLink RX4 9 "StackRuns$Rules" "controls" "I", Cond.methodLink RX6 69 yX4_isSign, Cond.instanceMethod yX4_isSign, Cond.selects RX4 yX4_isSign yX4_isSign, Cond.code yX4_isSign cX4_isSign 2 (some .boolean), Cond.fieldLink RX4 15 "StackRuns$Rules" "alphabet" "I", Cond.methodLink RX6 122 yX6_placeOf]
def wsX6_link_r2 : List Cond := [Cond.static yX6_placeOf, Cond.code yX6_placeOf cX6_placeOf 2 (some .int), Cond.methodLink RX6 125 yX2_join, Cond.instanceMethod yX2_join, Cond.selects RX2 yX2_join yX2_join, Cond.initialized RX2, Cond.code yX2_join cX2_join 4 (some .int), Cond.fieldLink RX2 18 "StackRuns$Net" "hops" "[I", Cond.fieldLink RX2 9 "StackRuns$Net" "links" "I", Cond.fieldLink RX2 26 "StackRuns$Net" "stale" "Z"]
def wsX6_link : List Cond := .code yX6_link cX6_link 6 (some .int) :: ((wsX6_link_r1 ++ wsX6_link_r2) ++ wsX60 ++ wsX20 ++ wsX40)
def wsX6_last_r1 : List Cond := [Cond.fieldLink RX6 25 "StackRuns" "nets" "[LStackRuns$Net;", Cond.methodLink RX6 112 yX6_isSet, Cond.instanceMethod yX6_isSet, Cond.selects RX6 yX6_isSet yX6_isSet, Cond.initialized RX6, Cond.code yX6_isSet cX6_isSet 2 (some .boolean), Cond.fieldLink RX6 50 "StackRuns" "sets" "I", Cond.methodLink RX6 115 yX6_isPlace, Cond.instanceMethod yX6_isPlace, Cond.selects RX6 yX6_isPlace yX6_isPlace, Cond.code yX6_isPlace cX6_isPlace 3 (some .boolean), Cond.fieldLink RX6 12 "StackRuns" "rules" "LStackRuns$Rules;", Cond.methodLink RX6 65 yX4_isControl, Cond.instanceMethod yX4_isControl, Cond.selects RX4 yX4_isControl yX4_isControl, Cond.initialized RX4, Cond.code yX4_isControl cX4_isControl 2 (some .boolean), Cond.fieldLink RX4 9 "StackRuns$Rules" "controls" "I", Cond.methodLink RX6 122 yX6_placeOf, Cond.static yX6_placeOf, Cond.code yX6_placeOf cX6_placeOf 2 (some .int), Cond.methodLink RX6 129 yX2_mark, Cond.instanceMethod yX2_mark, Cond.selects RX2 yX2_mark yX2_mark]
def wsX6_last_r2 : List Cond := [Cond.initialized RX2, Cond.code yX2_mark cX2_mark 4 (some .boolean), Cond.fieldLink RX2 15 "StackRuns$Net" "lastPlaces" "I", Cond.methodLink RX2 39 yX2_isLast, Cond.instanceMethod yX2_isLast, Cond.selects RX2 yX2_isLast yX2_isLast, Cond.code yX2_isLast cX2_isLast 2 (some .boolean), Cond.static yX6_hasBit, Cond.code yX6_hasBit cX6_hasBit 2 (some .boolean)]
def wsX6_last : List Cond := .code yX6_last cX6_last 5 (some .int) :: ((wsX6_last_r1 ++ wsX6_last_r2) ++ wsX60 ++ wsX40 ++ wsX20)
def wsX6_unset : List Cond := .code yX6_unset cX6_unset 1 (some .int) :: ([.fieldLink RX6 50 "StackRuns" "sets" "I"] ++ wsX60)
def wsX6_in : List Cond := .code yX6_in cX6_in 2 (some .int) :: ([.fieldLink RX6 25 "StackRuns" "nets" "[LStackRuns$Net;", .fieldLink RX6 19 "StackRuns" "here" "LStackRuns$Stand;", .methodLink RX6 112 yX6_isSet, .instanceMethod yX6_isSet, .selects RX6 yX6_isSet yX6_isSet, .initialized RX6, .code yX6_isSet cX6_isSet 2 (some .boolean), .fieldLink RX6 50 "StackRuns" "sets" "I", .methodLink RX6 133 yX2_holds, .instanceMethod yX2_holds, .selects RX2 yX2_holds yX2_holds, .initialized RX2, .code yX2_holds cX2_holds 4 (some .boolean), .fieldLink RX2 15 "StackRuns$Net" "lastPlaces" "I", .methodLink RX2 58 yX2_allHops, .instanceMethod yX2_allHops, .selects RX2 yX2_allHops yX2_allHops, .code yX2_allHops cX2_allHops 5 (some .int), .fieldLink RX2 18 "StackRuns$Net" "hops" "[I", .static yX6_hasBit, .code yX6_hasBit cX6_hasBit 2 (some .boolean)] ++ wsX60 ++ wsX50 ++ wsX20)
def wsX6_distance_r1 : List Cond := [Cond.fieldLink RX6 25 "StackRuns" "nets" "[LStackRuns$Net;", Cond.fieldLink RX6 32 "StackRuns" "pops" "LStackRuns$Pops;", Cond.fieldLink RX6 12 "StackRuns" "rules" "LStackRuns$Rules;", Cond.fieldLink RX6 46 "StackRuns" "ladder" "LStackRuns$Ladder;", Cond.fieldLink RX6 19 "StackRuns" "here" "LStackRuns$Stand;", Cond.methodLink RX6 157 yX3_renew, Cond.instanceMethod yX3_renew, Cond.selects RX3 yX3_renew yX3_renew, Cond.initialized RX3, Cond.code yX3_renew cX3_renew 5 none, Cond.fieldLink RX3 15 "StackRuns$Pops" "seen" "I", Cond.fieldLink RX3 9 "StackRuns$Pops" "least" "[J", Cond.constantLong RX3 24 (9000000000000000000), Cond.methodLink RX3 26 yJ7_fill_d0a16, Cond.static yJ7_fill_d0a16, Cond.initialized RJ7, Cond.code yJ7_fill_d0a16 cJ7_fill_d0a16 5 none, Cond.methodLink RX3 35 yX3_lowerBy, Cond.instanceMethod yX3_lowerBy, Cond.selects RX3 yX3_lowerBy yX3_lowerBy, Cond.code yX3_lowerBy cX3_lowerBy 10 (some .boolean), Cond.methodLink RX3 49 yX3_lower, Cond.instanceMethod yX3_lower, Cond.selects RX3 yX3_lower yX3_lower]
def wsX6_distance_r2 : List Cond := [Cond.code yX3_lower cX3_lower 4 (some .boolean), Cond.static yX6_headOf, Cond.initialized RX6, Cond.code yX6_headOf cX6_headOf 2 (some .int), Cond.static yX6_sum, Cond.code yX6_sum cX6_sum 4 (some .long), Cond.constantLong RX6 185 (9000000000000000000), Cond.constantLong RX6 147 (1000000000000000), Cond.methodLink RX6 189 Lib.MathLoose.min_long.x, Cond.static Lib.MathLoose.min_long.x, Cond.initialized "java/lang/Math", Cond.code Lib.MathLoose.min_long.x Lib.MathLoose.min_long.code 4 (some .long), Cond.methodLink RX3 67 yX3_lowerRow, Cond.instanceMethod yX3_lowerRow, Cond.selects RX3 yX3_lowerRow yX3_lowerRow, Cond.code yX3_lowerRow cX3_lowerRow 8 (some .boolean), Cond.methodLink RX6 195 yX2_renew, Cond.instanceMethod yX2_renew, Cond.selects RX2 yX2_renew yX2_renew, Cond.initialized RX2, Cond.code yX2_renew cX2_renew 6 none, Cond.fieldLink RX2 26 "StackRuns$Net" "stale" "Z", Cond.fieldLink RX2 30 "StackRuns$Net" "seen" "I", Cond.fieldLink RX2 22 "StackRuns$Net" "cost" "[J"]
def wsX6_distance_r3 : List Cond := [Cond.methodLink RX2 67 yX2_startFrom, Cond.instanceMethod yX2_startFrom, Cond.selects RX2 yX2_startFrom yX2_startFrom, Cond.code yX2_startFrom cX2_startFrom 5 none, Cond.constantLong RX2 87 (9000000000000000000), Cond.methodLink RX2 83 yX2_hasHop, Cond.instanceMethod yX2_hasHop, Cond.selects RX2 yX2_hasHop yX2_hasHop, Cond.code yX2_hasHop cX2_hasHop 4 (some .boolean), Cond.fieldLink RX2 18 "StackRuns$Net" "hops" "[I", Cond.static yX6_hasBit, Cond.code yX6_hasBit cX6_hasBit 2 (some .boolean), Cond.methodLink RX2 74 yX2_lowerBy, Cond.instanceMethod yX2_lowerBy, Cond.selects RX2 yX2_lowerBy yX2_lowerBy, Cond.code yX2_lowerBy cX2_lowerBy 9 (some .boolean), Cond.methodLink RX2 108 yX2_lower, Cond.instanceMethod yX2_lower, Cond.selects RX2 yX2_lower yX2_lower, Cond.code yX2_lower cX2_lower 5 (some .boolean), Cond.methodLink RX2 112 yX2_lowerRow, Cond.instanceMethod yX2_lowerRow, Cond.selects RX2 yX2_lowerRow yX2_lowerRow, Cond.code yX2_lowerRow cX2_lowerRow 8 (some .boolean)]
def wsX6_distance_r4 : List Cond := [Cond.methodLink RX2 116 yX2_through, Cond.instanceMethod yX2_through, Cond.selects RX2 yX2_through yX2_through, Cond.code yX2_through cX2_through 4 (some .long), Cond.methodLink RX6 196 yX1_start, Cond.instanceMethod yX1_start, Cond.selects RX1 yX1_start yX1_start, Cond.initialized RX1, Cond.code yX1_start cX1_start 3 none, Cond.fieldLink RX1 9 "StackRuns$Ladder" "rows" "[J", Cond.constantLong RX1 21 (9000000000000000000), Cond.methodLink RX1 15 yX2_isLast, Cond.instanceMethod yX2_isLast, Cond.selects RX2 yX2_isLast yX2_isLast, Cond.code yX2_isLast cX2_isLast 2 (some .boolean), Cond.fieldLink RX2 15 "StackRuns$Net" "lastPlaces" "I", Cond.methodLink RX6 153 yX1_build, Cond.instanceMethod yX1_build, Cond.selects RX1 yX1_build yX1_build, Cond.code yX1_build cX1_build 6 none, Cond.methodLink RX1 33 yX1_across, Cond.instanceMethod yX1_across, Cond.selects RX1 yX1_across yX1_across, Cond.code yX1_across cX1_across 10 (some .long)]
def wsX6_distance_r5 : List Cond := [Cond.methodLink RX1 45 Lib.MathLoose.min_long.x, Cond.methodLink RX1 37 yX2_through]
def wsX6_distance : List Cond := .code yX6_distance cX6_distance 3 (some .long) :: ((wsX6_distance_r1 ++ (wsX6_distance_r2 ++ (wsX6_distance_r3 ++ (wsX6_distance_r4 ++ wsX6_distance_r5)))) ++ wsX60 ++ wsX10 ++ wsX50 ++ wsX30 ++ wsX40 ++ wsX20)
def wsX6_told : List Cond := .code yX6_told cX6_told 2 (some .long) :: ([.constantLong RX6 185 (9000000000000000000), .constantLong RX6 187 (-1)])
def wsX6_far_r1 : List Cond := [Cond.constantLong RX6 137 (-2), Cond.methodLink RX6 112 yX6_isSet, Cond.instanceMethod yX6_isSet, Cond.selects RX6 yX6_isSet yX6_isSet, Cond.initialized RX6, Cond.code yX6_isSet cX6_isSet 2 (some .boolean), Cond.fieldLink RX6 50 "StackRuns" "sets" "I", Cond.methodLink RX6 139 yX6_distance, Cond.instanceMethod yX6_distance, Cond.selects RX6 yX6_distance yX6_distance, Cond.code yX6_distance cX6_distance 3 (some .long), Cond.fieldLink RX6 25 "StackRuns" "nets" "[LStackRuns$Net;", Cond.fieldLink RX6 32 "StackRuns" "pops" "LStackRuns$Pops;", Cond.fieldLink RX6 12 "StackRuns" "rules" "LStackRuns$Rules;", Cond.fieldLink RX6 46 "StackRuns" "ladder" "LStackRuns$Ladder;", Cond.fieldLink RX6 19 "StackRuns" "here" "LStackRuns$Stand;", Cond.methodLink RX6 157 yX3_renew, Cond.instanceMethod yX3_renew, Cond.selects RX3 yX3_renew yX3_renew, Cond.initialized RX3, Cond.code yX3_renew cX3_renew 5 none, Cond.fieldLink RX3 15 "StackRuns$Pops" "seen" "I", Cond.fieldLink RX3 9 "StackRuns$Pops" "least" "[J", Cond.constantLong RX3 24 (9000000000000000000)]
def wsX6_far_r2 : List Cond := [Cond.methodLink RX3 26 yJ7_fill_d0a16, Cond.static yJ7_fill_d0a16, Cond.initialized RJ7, Cond.code yJ7_fill_d0a16 cJ7_fill_d0a16 5 none, Cond.methodLink RX3 35 yX3_lowerBy, Cond.instanceMethod yX3_lowerBy, Cond.selects RX3 yX3_lowerBy yX3_lowerBy, Cond.code yX3_lowerBy cX3_lowerBy 10 (some .boolean), Cond.methodLink RX3 49 yX3_lower, Cond.instanceMethod yX3_lower, Cond.selects RX3 yX3_lower yX3_lower, Cond.code yX3_lower cX3_lower 4 (some .boolean), Cond.static yX6_headOf, Cond.code yX6_headOf cX6_headOf 2 (some .int), Cond.static yX6_sum, Cond.code yX6_sum cX6_sum 4 (some .long), Cond.constantLong RX6 185 (9000000000000000000), Cond.constantLong RX6 147 (1000000000000000), Cond.methodLink RX6 189 Lib.MathLoose.min_long.x, Cond.static Lib.MathLoose.min_long.x, Cond.initialized "java/lang/Math", Cond.code Lib.MathLoose.min_long.x Lib.MathLoose.min_long.code 4 (some .long), Cond.methodLink RX3 67 yX3_lowerRow, Cond.instanceMethod yX3_lowerRow]
def wsX6_far_r3 : List Cond := [Cond.selects RX3 yX3_lowerRow yX3_lowerRow, Cond.code yX3_lowerRow cX3_lowerRow 8 (some .boolean), Cond.methodLink RX6 195 yX2_renew, Cond.instanceMethod yX2_renew, Cond.selects RX2 yX2_renew yX2_renew, Cond.initialized RX2, Cond.code yX2_renew cX2_renew 6 none, Cond.fieldLink RX2 26 "StackRuns$Net" "stale" "Z", Cond.fieldLink RX2 30 "StackRuns$Net" "seen" "I", Cond.fieldLink RX2 22 "StackRuns$Net" "cost" "[J", Cond.methodLink RX2 67 yX2_startFrom, Cond.instanceMethod yX2_startFrom, Cond.selects RX2 yX2_startFrom yX2_startFrom, Cond.code yX2_startFrom cX2_startFrom 5 none, Cond.constantLong RX2 87 (9000000000000000000), Cond.methodLink RX2 83 yX2_hasHop, Cond.instanceMethod yX2_hasHop, Cond.selects RX2 yX2_hasHop yX2_hasHop, Cond.code yX2_hasHop cX2_hasHop 4 (some .boolean), Cond.fieldLink RX2 18 "StackRuns$Net" "hops" "[I", Cond.static yX6_hasBit, Cond.code yX6_hasBit cX6_hasBit 2 (some .boolean), Cond.methodLink RX2 74 yX2_lowerBy, Cond.instanceMethod yX2_lowerBy]
def wsX6_far_r4 : List Cond := [Cond.selects RX2 yX2_lowerBy yX2_lowerBy, Cond.code yX2_lowerBy cX2_lowerBy 9 (some .boolean), Cond.methodLink RX2 108 yX2_lower, Cond.instanceMethod yX2_lower, Cond.selects RX2 yX2_lower yX2_lower, Cond.code yX2_lower cX2_lower 5 (some .boolean), Cond.methodLink RX2 112 yX2_lowerRow, Cond.instanceMethod yX2_lowerRow, Cond.selects RX2 yX2_lowerRow yX2_lowerRow, Cond.code yX2_lowerRow cX2_lowerRow 8 (some .boolean), Cond.methodLink RX2 116 yX2_through, Cond.instanceMethod yX2_through, Cond.selects RX2 yX2_through yX2_through, Cond.code yX2_through cX2_through 4 (some .long), Cond.methodLink RX6 196 yX1_start, Cond.instanceMethod yX1_start, Cond.selects RX1 yX1_start yX1_start, Cond.initialized RX1, Cond.code yX1_start cX1_start 3 none, Cond.fieldLink RX1 9 "StackRuns$Ladder" "rows" "[J", Cond.constantLong RX1 21 (9000000000000000000), Cond.methodLink RX1 15 yX2_isLast, Cond.instanceMethod yX2_isLast, Cond.selects RX2 yX2_isLast yX2_isLast]
def wsX6_far_r5 : List Cond := [Cond.code yX2_isLast cX2_isLast 2 (some .boolean), Cond.fieldLink RX2 15 "StackRuns$Net" "lastPlaces" "I", Cond.methodLink RX6 153 yX1_build, Cond.instanceMethod yX1_build, Cond.selects RX1 yX1_build yX1_build, Cond.code yX1_build cX1_build 6 none, Cond.methodLink RX1 33 yX1_across, Cond.instanceMethod yX1_across, Cond.selects RX1 yX1_across yX1_across, Cond.code yX1_across cX1_across 10 (some .long), Cond.methodLink RX1 45 Lib.MathLoose.min_long.x, Cond.methodLink RX1 37 yX2_through, Cond.methodLink RX6 143 yX6_told, Cond.static yX6_told, Cond.code yX6_told cX6_told 2 (some .long), Cond.constantLong RX6 187 (-1)]
def wsX6_far : List Cond := .code yX6_far cX6_far 2 (some .long) :: ((wsX6_far_r1 ++ (wsX6_far_r2 ++ (wsX6_far_r3 ++ (wsX6_far_r4 ++ wsX6_far_r5)))) ++ wsX60 ++ wsX10 ++ wsX50 ++ wsX30 ++ wsX40 ++ wsX20)
def wsX6_nearing_r1 : List Cond := [Cond.fieldLink RX6 19 "StackRuns" "here" "LStackRuns$Stand;", Cond.fieldLink RX6 12 "StackRuns" "rules" "LStackRuns$Rules;", Cond.fieldLink RX6 46 "StackRuns" "ladder" "LStackRuns$Ladder;", Cond.fieldLink RX6 25 "StackRuns" "nets" "[LStackRuns$Net;", Cond.methodLink RX6 100 yX5_head, Cond.instanceMethod yX5_head, Cond.selects RX5 yX5_head yX5_head, Cond.initialized RX5, Cond.code yX5_head cX5_head 1 (some .int), Cond.fieldLink RX5 15 "StackRuns$Stand" "height" "I", Cond.fieldLink RX5 9 "StackRuns$Stand" "control" "I", Cond.fieldLink RX5 18 "StackRuns$Stand" "signs" "[I", Cond.static yX6_headOf, Cond.initialized RX6, Cond.code yX6_headOf cX6_headOf 2 (some .int), Cond.methodLink RX6 203 yX1_after, Cond.instanceMethod yX1_after, Cond.selects RX1 yX1_after yX1_after, Cond.initialized RX1, Cond.code yX1_after cX1_after 11 (some .long), Cond.fieldLink RX1 9 "StackRuns$Ladder" "rows" "[J", Cond.constantLong RX1 21 (9000000000000000000), Cond.methodLink RX1 45 Lib.MathLoose.min_long.x, Cond.static Lib.MathLoose.min_long.x]
def wsX6_nearing_r2 : List Cond := [Cond.initialized "java/lang/Math", Cond.code Lib.MathLoose.min_long.x Lib.MathLoose.min_long.code 4 (some .long), Cond.methodLink RX1 33 yX1_across, Cond.instanceMethod yX1_across, Cond.selects RX1 yX1_across yX1_across, Cond.code yX1_across cX1_across 10 (some .long), Cond.methodLink RX1 37 yX2_through, Cond.instanceMethod yX2_through, Cond.selects RX2 yX2_through yX2_through, Cond.initialized RX2, Cond.code yX2_through cX2_through 4 (some .long), Cond.fieldLink RX2 22 "StackRuns$Net" "cost" "[J", Cond.constantLong RX2 87 (9000000000000000000), Cond.methodLink RX2 83 yX2_hasHop, Cond.instanceMethod yX2_hasHop, Cond.selects RX2 yX2_hasHop yX2_hasHop, Cond.code yX2_hasHop cX2_hasHop 4 (some .boolean), Cond.fieldLink RX2 18 "StackRuns$Net" "hops" "[I", Cond.static yX6_hasBit, Cond.code yX6_hasBit cX6_hasBit 2 (some .boolean), Cond.static yX6_sum, Cond.code yX6_sum cX6_sum 4 (some .long), Cond.constantLong RX6 185 (9000000000000000000), Cond.constantLong RX6 147 (1000000000000000)]
def wsX6_nearing_r3 : List Cond := [Cond.methodLink RX6 189 Lib.MathLoose.min_long.x]
def wsX6_nearing : List Cond := .code yX6_nearing cX6_nearing 6 (some .int) :: ((wsX6_nearing_r1 ++ (wsX6_nearing_r2 ++ wsX6_nearing_r3)) ++ wsX60 ++ wsX40 ++ wsX50 ++ wsX10 ++ wsX20)
def wsX6_step_r1 : List Cond := [Cond.constantLong RX6 147 (1000000000000000), Cond.fieldLink RX6 19 "StackRuns" "here" "LStackRuns$Stand;", Cond.fieldLink RX6 12 "StackRuns" "rules" "LStackRuns$Rules;", Cond.methodLink RX6 112 yX6_isSet, Cond.instanceMethod yX6_isSet, Cond.selects RX6 yX6_isSet yX6_isSet, Cond.initialized RX6, Cond.code yX6_isSet cX6_isSet 2 (some .boolean), Cond.fieldLink RX6 50 "StackRuns" "sets" "I", Cond.methodLink RX6 139 yX6_distance, Cond.instanceMethod yX6_distance, Cond.selects RX6 yX6_distance yX6_distance, Cond.code yX6_distance cX6_distance 3 (some .long), Cond.fieldLink RX6 25 "StackRuns" "nets" "[LStackRuns$Net;", Cond.fieldLink RX6 32 "StackRuns" "pops" "LStackRuns$Pops;", Cond.fieldLink RX6 46 "StackRuns" "ladder" "LStackRuns$Ladder;", Cond.methodLink RX6 157 yX3_renew, Cond.instanceMethod yX3_renew, Cond.selects RX3 yX3_renew yX3_renew, Cond.initialized RX3, Cond.code yX3_renew cX3_renew 5 none, Cond.fieldLink RX3 15 "StackRuns$Pops" "seen" "I", Cond.fieldLink RX3 9 "StackRuns$Pops" "least" "[J", Cond.constantLong RX3 24 (9000000000000000000)]
def wsX6_step_r2 : List Cond := [Cond.methodLink RX3 26 yJ7_fill_d0a16, Cond.static yJ7_fill_d0a16, Cond.initialized RJ7, Cond.code yJ7_fill_d0a16 cJ7_fill_d0a16 5 none, Cond.methodLink RX3 35 yX3_lowerBy, Cond.instanceMethod yX3_lowerBy, Cond.selects RX3 yX3_lowerBy yX3_lowerBy, Cond.code yX3_lowerBy cX3_lowerBy 10 (some .boolean), Cond.methodLink RX3 49 yX3_lower, Cond.instanceMethod yX3_lower, Cond.selects RX3 yX3_lower yX3_lower, Cond.code yX3_lower cX3_lower 4 (some .boolean), Cond.static yX6_headOf, Cond.code yX6_headOf cX6_headOf 2 (some .int), Cond.static yX6_sum, Cond.code yX6_sum cX6_sum 4 (some .long), Cond.constantLong RX6 185 (9000000000000000000), Cond.methodLink RX6 189 Lib.MathLoose.min_long.x, Cond.static Lib.MathLoose.min_long.x, Cond.initialized "java/lang/Math", Cond.code Lib.MathLoose.min_long.x Lib.MathLoose.min_long.code 4 (some .long), Cond.methodLink RX3 67 yX3_lowerRow, Cond.instanceMethod yX3_lowerRow, Cond.selects RX3 yX3_lowerRow yX3_lowerRow]
def wsX6_step_r3 : List Cond := [Cond.code yX3_lowerRow cX3_lowerRow 8 (some .boolean), Cond.methodLink RX6 195 yX2_renew, Cond.instanceMethod yX2_renew, Cond.selects RX2 yX2_renew yX2_renew, Cond.initialized RX2, Cond.code yX2_renew cX2_renew 6 none, Cond.fieldLink RX2 26 "StackRuns$Net" "stale" "Z", Cond.fieldLink RX2 30 "StackRuns$Net" "seen" "I", Cond.fieldLink RX2 22 "StackRuns$Net" "cost" "[J", Cond.methodLink RX2 67 yX2_startFrom, Cond.instanceMethod yX2_startFrom, Cond.selects RX2 yX2_startFrom yX2_startFrom, Cond.code yX2_startFrom cX2_startFrom 5 none, Cond.constantLong RX2 87 (9000000000000000000), Cond.methodLink RX2 83 yX2_hasHop, Cond.instanceMethod yX2_hasHop, Cond.selects RX2 yX2_hasHop yX2_hasHop, Cond.code yX2_hasHop cX2_hasHop 4 (some .boolean), Cond.fieldLink RX2 18 "StackRuns$Net" "hops" "[I", Cond.static yX6_hasBit, Cond.code yX6_hasBit cX6_hasBit 2 (some .boolean), Cond.methodLink RX2 74 yX2_lowerBy, Cond.instanceMethod yX2_lowerBy, Cond.selects RX2 yX2_lowerBy yX2_lowerBy]
def wsX6_step_r4 : List Cond := [Cond.code yX2_lowerBy cX2_lowerBy 9 (some .boolean), Cond.methodLink RX2 108 yX2_lower, Cond.instanceMethod yX2_lower, Cond.selects RX2 yX2_lower yX2_lower, Cond.code yX2_lower cX2_lower 5 (some .boolean), Cond.methodLink RX2 112 yX2_lowerRow, Cond.instanceMethod yX2_lowerRow, Cond.selects RX2 yX2_lowerRow yX2_lowerRow, Cond.code yX2_lowerRow cX2_lowerRow 8 (some .boolean), Cond.methodLink RX2 116 yX2_through, Cond.instanceMethod yX2_through, Cond.selects RX2 yX2_through yX2_through, Cond.code yX2_through cX2_through 4 (some .long), Cond.methodLink RX6 196 yX1_start, Cond.instanceMethod yX1_start, Cond.selects RX1 yX1_start yX1_start, Cond.initialized RX1, Cond.code yX1_start cX1_start 3 none, Cond.fieldLink RX1 9 "StackRuns$Ladder" "rows" "[J", Cond.constantLong RX1 21 (9000000000000000000), Cond.methodLink RX1 15 yX2_isLast, Cond.instanceMethod yX2_isLast, Cond.selects RX2 yX2_isLast yX2_isLast, Cond.code yX2_isLast cX2_isLast 2 (some .boolean)]
def wsX6_step_r5 : List Cond := [Cond.fieldLink RX2 15 "StackRuns$Net" "lastPlaces" "I", Cond.methodLink RX6 153 yX1_build, Cond.instanceMethod yX1_build, Cond.selects RX1 yX1_build yX1_build, Cond.code yX1_build cX1_build 6 none, Cond.methodLink RX1 33 yX1_across, Cond.instanceMethod yX1_across, Cond.selects RX1 yX1_across yX1_across, Cond.code yX1_across cX1_across 10 (some .long), Cond.methodLink RX1 45 Lib.MathLoose.min_long.x, Cond.methodLink RX1 37 yX2_through, Cond.methodLink RX6 149 yX6_nearing, Cond.instanceMethod yX6_nearing, Cond.selects RX6 yX6_nearing yX6_nearing, Cond.code yX6_nearing cX6_nearing 6 (some .int), Cond.methodLink RX6 100 yX5_head, Cond.instanceMethod yX5_head, Cond.selects RX5 yX5_head yX5_head, Cond.initialized RX5, Cond.code yX5_head cX5_head 1 (some .int), Cond.fieldLink RX5 15 "StackRuns$Stand" "height" "I", Cond.fieldLink RX5 9 "StackRuns$Stand" "control" "I", Cond.fieldLink RX5 18 "StackRuns$Stand" "signs" "[I", Cond.methodLink RX6 203 yX1_after]
def wsX6_step_r6 : List Cond := [Cond.instanceMethod yX1_after, Cond.selects RX1 yX1_after yX1_after, Cond.code yX1_after cX1_after 11 (some .long), Cond.methodLink RX6 102 yX5_hasRoom, Cond.instanceMethod yX5_hasRoom, Cond.selects RX5 yX5_hasRoom yX5_hasRoom, Cond.code yX5_hasRoom cX5_hasRoom 3 (some .boolean), Cond.methodLink RX6 106 yX5_change, Cond.instanceMethod yX5_change, Cond.selects RX5 yX5_change yX5_change, Cond.code yX5_change cX5_change 3 none, Cond.methodLink RX5 31 yX5_cover, Cond.instanceMethod yX5_cover, Cond.selects RX5 yX5_cover yX5_cover, Cond.code yX5_cover cX5_cover 2 none]
def wsX6_step : List Cond := .code yX6_step cX6_step 5 (some .int) :: ((wsX6_step_r1 ++ (wsX6_step_r2 ++ (wsX6_step_r3 ++ (wsX6_step_r4 ++ (wsX6_step_r5 ++ wsX6_step_r6))))) ++ wsX60 ++ wsX10 ++ wsX50 ++ wsX30 ++ wsX40 ++ wsX20)
def wsX6_run_r1 : List Cond := [Cond.constantLong RX6 147 (1000000000000000), Cond.fieldLink RX6 19 "StackRuns" "here" "LStackRuns$Stand;", Cond.fieldLink RX6 12 "StackRuns" "rules" "LStackRuns$Rules;", Cond.fieldLink RX6 46 "StackRuns" "ladder" "LStackRuns$Ladder;", Cond.fieldLink RX6 25 "StackRuns" "nets" "[LStackRuns$Net;", Cond.methodLink RX6 112 yX6_isSet, Cond.instanceMethod yX6_isSet, Cond.selects RX6 yX6_isSet yX6_isSet, Cond.initialized RX6, Cond.code yX6_isSet cX6_isSet 2 (some .boolean), Cond.fieldLink RX6 50 "StackRuns" "sets" "I", Cond.methodLink RX6 139 yX6_distance, Cond.instanceMethod yX6_distance, Cond.selects RX6 yX6_distance yX6_distance, Cond.code yX6_distance cX6_distance 3 (some .long), Cond.fieldLink RX6 32 "StackRuns" "pops" "LStackRuns$Pops;", Cond.methodLink RX6 157 yX3_renew, Cond.instanceMethod yX3_renew, Cond.selects RX3 yX3_renew yX3_renew, Cond.initialized RX3, Cond.code yX3_renew cX3_renew 5 none, Cond.fieldLink RX3 15 "StackRuns$Pops" "seen" "I", Cond.fieldLink RX3 9 "StackRuns$Pops" "least" "[J", Cond.constantLong RX3 24 (9000000000000000000)]
def wsX6_run_r2 : List Cond := [Cond.methodLink RX3 26 yJ7_fill_d0a16, Cond.static yJ7_fill_d0a16, Cond.initialized RJ7, Cond.code yJ7_fill_d0a16 cJ7_fill_d0a16 5 none, Cond.methodLink RX3 35 yX3_lowerBy, Cond.instanceMethod yX3_lowerBy, Cond.selects RX3 yX3_lowerBy yX3_lowerBy, Cond.code yX3_lowerBy cX3_lowerBy 10 (some .boolean), Cond.methodLink RX3 49 yX3_lower, Cond.instanceMethod yX3_lower, Cond.selects RX3 yX3_lower yX3_lower, Cond.code yX3_lower cX3_lower 4 (some .boolean), Cond.static yX6_headOf, Cond.code yX6_headOf cX6_headOf 2 (some .int), Cond.static yX6_sum, Cond.code yX6_sum cX6_sum 4 (some .long), Cond.constantLong RX6 185 (9000000000000000000), Cond.methodLink RX6 189 Lib.MathLoose.min_long.x, Cond.static Lib.MathLoose.min_long.x, Cond.initialized "java/lang/Math", Cond.code Lib.MathLoose.min_long.x Lib.MathLoose.min_long.code 4 (some .long), Cond.methodLink RX3 67 yX3_lowerRow, Cond.instanceMethod yX3_lowerRow, Cond.selects RX3 yX3_lowerRow yX3_lowerRow]
def wsX6_run_r3 : List Cond := [Cond.code yX3_lowerRow cX3_lowerRow 8 (some .boolean), Cond.methodLink RX6 195 yX2_renew, Cond.instanceMethod yX2_renew, Cond.selects RX2 yX2_renew yX2_renew, Cond.initialized RX2, Cond.code yX2_renew cX2_renew 6 none, Cond.fieldLink RX2 26 "StackRuns$Net" "stale" "Z", Cond.fieldLink RX2 30 "StackRuns$Net" "seen" "I", Cond.fieldLink RX2 22 "StackRuns$Net" "cost" "[J", Cond.methodLink RX2 67 yX2_startFrom, Cond.instanceMethod yX2_startFrom, Cond.selects RX2 yX2_startFrom yX2_startFrom, Cond.code yX2_startFrom cX2_startFrom 5 none, Cond.constantLong RX2 87 (9000000000000000000), Cond.methodLink RX2 83 yX2_hasHop, Cond.instanceMethod yX2_hasHop, Cond.selects RX2 yX2_hasHop yX2_hasHop, Cond.code yX2_hasHop cX2_hasHop 4 (some .boolean), Cond.fieldLink RX2 18 "StackRuns$Net" "hops" "[I", Cond.static yX6_hasBit, Cond.code yX6_hasBit cX6_hasBit 2 (some .boolean), Cond.methodLink RX2 74 yX2_lowerBy, Cond.instanceMethod yX2_lowerBy, Cond.selects RX2 yX2_lowerBy yX2_lowerBy]
def wsX6_run_r4 : List Cond := [Cond.code yX2_lowerBy cX2_lowerBy 9 (some .boolean), Cond.methodLink RX2 108 yX2_lower, Cond.instanceMethod yX2_lower, Cond.selects RX2 yX2_lower yX2_lower, Cond.code yX2_lower cX2_lower 5 (some .boolean), Cond.methodLink RX2 112 yX2_lowerRow, Cond.instanceMethod yX2_lowerRow, Cond.selects RX2 yX2_lowerRow yX2_lowerRow, Cond.code yX2_lowerRow cX2_lowerRow 8 (some .boolean), Cond.methodLink RX2 116 yX2_through, Cond.instanceMethod yX2_through, Cond.selects RX2 yX2_through yX2_through, Cond.code yX2_through cX2_through 4 (some .long), Cond.methodLink RX6 196 yX1_start, Cond.instanceMethod yX1_start, Cond.selects RX1 yX1_start yX1_start, Cond.initialized RX1, Cond.code yX1_start cX1_start 3 none, Cond.fieldLink RX1 9 "StackRuns$Ladder" "rows" "[J", Cond.constantLong RX1 21 (9000000000000000000), Cond.methodLink RX1 15 yX2_isLast, Cond.instanceMethod yX2_isLast, Cond.selects RX2 yX2_isLast yX2_isLast, Cond.code yX2_isLast cX2_isLast 2 (some .boolean)]
def wsX6_run_r5 : List Cond := [Cond.fieldLink RX2 15 "StackRuns$Net" "lastPlaces" "I", Cond.methodLink RX6 153 yX1_build, Cond.instanceMethod yX1_build, Cond.selects RX1 yX1_build yX1_build, Cond.code yX1_build cX1_build 6 none, Cond.methodLink RX1 33 yX1_across, Cond.instanceMethod yX1_across, Cond.selects RX1 yX1_across yX1_across, Cond.code yX1_across cX1_across 10 (some .long), Cond.methodLink RX1 45 Lib.MathLoose.min_long.x, Cond.methodLink RX1 37 yX2_through, Cond.methodLink RX6 149 yX6_nearing, Cond.instanceMethod yX6_nearing, Cond.selects RX6 yX6_nearing yX6_nearing, Cond.code yX6_nearing cX6_nearing 6 (some .int), Cond.methodLink RX6 100 yX5_head, Cond.instanceMethod yX5_head, Cond.selects RX5 yX5_head yX5_head, Cond.initialized RX5, Cond.code yX5_head cX5_head 1 (some .int), Cond.fieldLink RX5 15 "StackRuns$Stand" "height" "I", Cond.fieldLink RX5 9 "StackRuns$Stand" "control" "I", Cond.fieldLink RX5 18 "StackRuns$Stand" "signs" "[I", Cond.methodLink RX6 203 yX1_after]
def wsX6_run_r6 : List Cond := [Cond.instanceMethod yX1_after, Cond.selects RX1 yX1_after yX1_after, Cond.code yX1_after cX1_after 11 (some .long), Cond.methodLink RX6 102 yX5_hasRoom, Cond.instanceMethod yX5_hasRoom, Cond.selects RX5 yX5_hasRoom yX5_hasRoom, Cond.code yX5_hasRoom cX5_hasRoom 3 (some .boolean), Cond.methodLink RX6 106 yX5_change, Cond.instanceMethod yX5_change, Cond.selects RX5 yX5_change yX5_change, Cond.code yX5_change cX5_change 3 none, Cond.methodLink RX5 31 yX5_cover, Cond.instanceMethod yX5_cover, Cond.selects RX5 yX5_cover yX5_cover, Cond.code yX5_cover cX5_cover 2 none]
def wsX6_run : List Cond := .code yX6_run cX6_run 8 (some .int) :: ((wsX6_run_r1 ++ (wsX6_run_r2 ++ (wsX6_run_r3 ++ (wsX6_run_r4 ++ (wsX6_run_r5 ++ wsX6_run_r6))))) ++ wsX60 ++ wsX50 ++ wsX10 ++ wsX30 ++ wsX40 ++ wsX20)
def wsX6_pop_r1 : List Cond := [Cond.fieldLink RX6 12 "StackRuns" "rules" "LStackRuns$Rules;", Cond.constantLong RX6 137 (-2), Cond.fieldLink RX6 32 "StackRuns" "pops" "LStackRuns$Pops;", Cond.methodLink RX6 65 yX4_isControl, Cond.instanceMethod yX4_isControl, Cond.selects RX4 yX4_isControl yX4_isControl, Cond.initialized RX4, Cond.code yX4_isControl cX4_isControl 2 (some .boolean), Cond.fieldLink RX4 9 "StackRuns$Rules" "controls" "I", Cond.methodLink RX6 69 yX4_isSign, Cond.instanceMethod yX4_isSign, Cond.selects RX4 yX4_isSign yX4_isSign, Cond.code yX4_isSign cX4_isSign 2 (some .boolean), Cond.fieldLink RX4 15 "StackRuns$Rules" "alphabet" "I", Cond.methodLink RX6 157 yX3_renew, Cond.instanceMethod yX3_renew, Cond.selects RX3 yX3_renew yX3_renew, Cond.initialized RX3, Cond.code yX3_renew cX3_renew 5 none, Cond.fieldLink RX3 15 "StackRuns$Pops" "seen" "I", Cond.fieldLink RX3 9 "StackRuns$Pops" "least" "[J", Cond.constantLong RX3 24 (9000000000000000000), Cond.methodLink RX3 26 yJ7_fill_d0a16, Cond.static yJ7_fill_d0a16]
def wsX6_pop_r2 : List Cond := [Cond.initialized RJ7, Cond.code yJ7_fill_d0a16 cJ7_fill_d0a16 5 none, Cond.methodLink RX3 35 yX3_lowerBy, Cond.instanceMethod yX3_lowerBy, Cond.selects RX3 yX3_lowerBy yX3_lowerBy, Cond.code yX3_lowerBy cX3_lowerBy 10 (some .boolean), Cond.methodLink RX3 49 yX3_lower, Cond.instanceMethod yX3_lower, Cond.selects RX3 yX3_lower yX3_lower, Cond.code yX3_lower cX3_lower 4 (some .boolean), Cond.static yX6_headOf, Cond.initialized RX6, Cond.code yX6_headOf cX6_headOf 2 (some .int), Cond.static yX6_sum, Cond.code yX6_sum cX6_sum 4 (some .long), Cond.constantLong RX6 185 (9000000000000000000), Cond.constantLong RX6 147 (1000000000000000), Cond.methodLink RX6 189 Lib.MathLoose.min_long.x, Cond.static Lib.MathLoose.min_long.x, Cond.initialized "java/lang/Math", Cond.code Lib.MathLoose.min_long.x Lib.MathLoose.min_long.code 4 (some .long), Cond.methodLink RX3 67 yX3_lowerRow, Cond.instanceMethod yX3_lowerRow, Cond.selects RX3 yX3_lowerRow yX3_lowerRow]
def wsX6_pop_r3 : List Cond := [Cond.code yX3_lowerRow cX3_lowerRow 8 (some .boolean), Cond.methodLink RX6 72 yX6_headOf, Cond.methodLink RX6 143 yX6_told, Cond.static yX6_told, Cond.code yX6_told cX6_told 2 (some .long), Cond.constantLong RX6 187 (-1)]
def wsX6_pop : List Cond := .code yX6_pop cX6_pop 4 (some .long) :: ((wsX6_pop_r1 ++ (wsX6_pop_r2 ++ wsX6_pop_r3)) ++ wsX60 ++ wsX30 ++ wsX40)
def wsX6_endless_r1 : List Cond := [Cond.fieldLink RX6 32 "StackRuns" "pops" "LStackRuns$Pops;", Cond.fieldLink RX6 12 "StackRuns" "rules" "LStackRuns$Rules;", Cond.fieldLink RX6 39 "StackRuns" "heads" "LStackRuns$Heads;", Cond.fieldLink RX6 19 "StackRuns" "here" "LStackRuns$Stand;", Cond.methodLink RX6 157 yX3_renew, Cond.instanceMethod yX3_renew, Cond.selects RX3 yX3_renew yX3_renew, Cond.initialized RX3, Cond.code yX3_renew cX3_renew 5 none, Cond.fieldLink RX3 15 "StackRuns$Pops" "seen" "I", Cond.fieldLink RX3 9 "StackRuns$Pops" "least" "[J", Cond.constantLong RX3 24 (9000000000000000000), Cond.methodLink RX3 26 yJ7_fill_d0a16, Cond.static yJ7_fill_d0a16, Cond.initialized RJ7, Cond.code yJ7_fill_d0a16 cJ7_fill_d0a16 5 none, Cond.methodLink RX3 35 yX3_lowerBy, Cond.instanceMethod yX3_lowerBy, Cond.selects RX3 yX3_lowerBy yX3_lowerBy, Cond.code yX3_lowerBy cX3_lowerBy 10 (some .boolean), Cond.methodLink RX3 49 yX3_lower, Cond.instanceMethod yX3_lower, Cond.selects RX3 yX3_lower yX3_lower, Cond.code yX3_lower cX3_lower 4 (some .boolean)]
def wsX6_endless_r2 : List Cond := [Cond.static yX6_headOf, Cond.initialized RX6, Cond.code yX6_headOf cX6_headOf 2 (some .int), Cond.static yX6_sum, Cond.code yX6_sum cX6_sum 4 (some .long), Cond.constantLong RX6 185 (9000000000000000000), Cond.constantLong RX6 147 (1000000000000000), Cond.methodLink RX6 189 Lib.MathLoose.min_long.x, Cond.static Lib.MathLoose.min_long.x, Cond.initialized "java/lang/Math", Cond.code Lib.MathLoose.min_long.x Lib.MathLoose.min_long.code 4 (some .long), Cond.methodLink RX3 67 yX3_lowerRow, Cond.instanceMethod yX3_lowerRow, Cond.selects RX3 yX3_lowerRow yX3_lowerRow, Cond.code yX3_lowerRow cX3_lowerRow 8 (some .boolean), Cond.methodLink RX6 165 yX0_renew, Cond.instanceMethod yX0_renew, Cond.selects RX0 yX0_renew yX0_renew, Cond.initialized RX0, Cond.code yX0_renew cX0_renew 3 none, Cond.fieldLink RX0 28 "StackRuns$Heads" "seen" "I", Cond.methodLink RX0 36 yX0_findExits, Cond.instanceMethod yX0_findExits, Cond.selects RX0 yX0_findExits yX0_findExits]
def wsX6_endless_r3 : List Cond := [Cond.code yX0_findExits cX0_findExits 4 none, Cond.fieldLink RX0 9 "StackRuns$Heads" "exits" "[I", Cond.constantLong RX0 56 (9000000000000000000), Cond.methodLink RX0 40 yX0_findAhead, Cond.instanceMethod yX0_findAhead, Cond.selects RX0 yX0_findAhead yX0_findAhead, Cond.code yX0_findAhead cX0_findAhead 4 none, Cond.fieldLink RX0 15 "StackRuns$Heads" "ahead" "[I", Cond.methodLink RX0 58 yJ7_fill_53178, Cond.static yJ7_fill_53178, Cond.code yJ7_fill_53178 cJ7_fill_53178 4 none, Cond.methodLink RX0 80 yX0_uncovered, Cond.instanceMethod yX0_uncovered, Cond.selects RX0 yX0_uncovered yX0_uncovered, Cond.code yX0_uncovered cX0_uncovered 6 (some .int), Cond.static yX6_hasBit, Cond.code yX6_hasBit cX6_hasBit 2 (some .boolean), Cond.methodLink RX0 44 yX0_findCircles, Cond.instanceMethod yX0_findCircles, Cond.selects RX0 yX0_findCircles yX0_findCircles, Cond.code yX0_findCircles cX0_findCircles 6 none, Cond.fieldLink RX0 21 "StackRuns$Heads" "circling" "I", Cond.fieldLink RX0 25 "StackRuns$Heads" "boundless" "I", Cond.methodLink RX0 91 yX0_leadingTo]
def wsX6_endless_r4 : List Cond := [Cond.instanceMethod yX0_leadingTo, Cond.selects RX0 yX0_leadingTo yX0_leadingTo, Cond.code yX0_leadingTo cX0_leadingTo 4 (some .int), Cond.methodLink RX0 47 yX0_findTallest, Cond.instanceMethod yX0_findTallest, Cond.selects RX0 yX0_findTallest yX0_findTallest, Cond.code yX0_findTallest cX0_findTallest 6 none, Cond.fieldLink RX0 18 "StackRuns$Heads" "tallest" "[I", Cond.methodLink RX0 95 yX0_raiseBy, Cond.instanceMethod yX0_raiseBy, Cond.selects RX0 yX0_raiseBy yX0_raiseBy, Cond.code yX0_raiseBy cX0_raiseBy 7 (some .boolean), Cond.methodLink RX0 99 Lib.Math.max.name, Cond.static Lib.Math.max.name, Cond.code Lib.Math.max.name Lib.Math.max.code 2 (some .int), Cond.methodLink RX6 168 yX0_goOnFrom, Cond.instanceMethod yX0_goOnFrom, Cond.selects RX0 yX0_goOnFrom yX0_goOnFrom, Cond.code yX0_goOnFrom cX0_goOnFrom 4 (some .boolean), Cond.methodLink RX0 115 yX0_headsOf, Cond.instanceMethod yX0_headsOf, Cond.selects RX0 yX0_headsOf yX0_headsOf, Cond.code yX0_headsOf cX0_headsOf 5 (some .int), Cond.methodLink RX0 118 yX0_allExits]
def wsX6_endless_r5 : List Cond := [Cond.instanceMethod yX0_allExits, Cond.selects RX0 yX0_allExits yX0_allExits, Cond.code yX0_allExits cX0_allExits 5 (some .int)]
def wsX6_endless : List Cond := .code yX6_endless cX6_endless 1 (some .int) :: ((wsX6_endless_r1 ++ (wsX6_endless_r2 ++ (wsX6_endless_r3 ++ (wsX6_endless_r4 ++ wsX6_endless_r5)))) ++ wsX60 ++ wsX30 ++ wsX40 ++ wsX00 ++ wsX50)
def wsX6_high_r1 : List Cond := [Cond.fieldLink RX6 32 "StackRuns" "pops" "LStackRuns$Pops;", Cond.fieldLink RX6 12 "StackRuns" "rules" "LStackRuns$Rules;", Cond.fieldLink RX6 39 "StackRuns" "heads" "LStackRuns$Heads;", Cond.fieldLink RX6 19 "StackRuns" "here" "LStackRuns$Stand;", Cond.methodLink RX6 157 yX3_renew, Cond.instanceMethod yX3_renew, Cond.selects RX3 yX3_renew yX3_renew, Cond.initialized RX3, Cond.code yX3_renew cX3_renew 5 none, Cond.fieldLink RX3 15 "StackRuns$Pops" "seen" "I", Cond.fieldLink RX3 9 "StackRuns$Pops" "least" "[J", Cond.constantLong RX3 24 (9000000000000000000), Cond.methodLink RX3 26 yJ7_fill_d0a16, Cond.static yJ7_fill_d0a16, Cond.initialized RJ7, Cond.code yJ7_fill_d0a16 cJ7_fill_d0a16 5 none, Cond.methodLink RX3 35 yX3_lowerBy, Cond.instanceMethod yX3_lowerBy, Cond.selects RX3 yX3_lowerBy yX3_lowerBy, Cond.code yX3_lowerBy cX3_lowerBy 10 (some .boolean), Cond.methodLink RX3 49 yX3_lower, Cond.instanceMethod yX3_lower, Cond.selects RX3 yX3_lower yX3_lower, Cond.code yX3_lower cX3_lower 4 (some .boolean)]
def wsX6_high_r2 : List Cond := [Cond.static yX6_headOf, Cond.initialized RX6, Cond.code yX6_headOf cX6_headOf 2 (some .int), Cond.static yX6_sum, Cond.code yX6_sum cX6_sum 4 (some .long), Cond.constantLong RX6 185 (9000000000000000000), Cond.constantLong RX6 147 (1000000000000000), Cond.methodLink RX6 189 Lib.MathLoose.min_long.x, Cond.static Lib.MathLoose.min_long.x, Cond.initialized "java/lang/Math", Cond.code Lib.MathLoose.min_long.x Lib.MathLoose.min_long.code 4 (some .long), Cond.methodLink RX3 67 yX3_lowerRow, Cond.instanceMethod yX3_lowerRow, Cond.selects RX3 yX3_lowerRow yX3_lowerRow, Cond.code yX3_lowerRow cX3_lowerRow 8 (some .boolean), Cond.methodLink RX6 165 yX0_renew, Cond.instanceMethod yX0_renew, Cond.selects RX0 yX0_renew yX0_renew, Cond.initialized RX0, Cond.code yX0_renew cX0_renew 3 none, Cond.fieldLink RX0 28 "StackRuns$Heads" "seen" "I", Cond.methodLink RX0 36 yX0_findExits, Cond.instanceMethod yX0_findExits, Cond.selects RX0 yX0_findExits yX0_findExits]
def wsX6_high_r3 : List Cond := [Cond.code yX0_findExits cX0_findExits 4 none, Cond.fieldLink RX0 9 "StackRuns$Heads" "exits" "[I", Cond.constantLong RX0 56 (9000000000000000000), Cond.methodLink RX0 40 yX0_findAhead, Cond.instanceMethod yX0_findAhead, Cond.selects RX0 yX0_findAhead yX0_findAhead, Cond.code yX0_findAhead cX0_findAhead 4 none, Cond.fieldLink RX0 15 "StackRuns$Heads" "ahead" "[I", Cond.methodLink RX0 58 yJ7_fill_53178, Cond.static yJ7_fill_53178, Cond.code yJ7_fill_53178 cJ7_fill_53178 4 none, Cond.methodLink RX0 80 yX0_uncovered, Cond.instanceMethod yX0_uncovered, Cond.selects RX0 yX0_uncovered yX0_uncovered, Cond.code yX0_uncovered cX0_uncovered 6 (some .int), Cond.static yX6_hasBit, Cond.code yX6_hasBit cX6_hasBit 2 (some .boolean), Cond.methodLink RX0 44 yX0_findCircles, Cond.instanceMethod yX0_findCircles, Cond.selects RX0 yX0_findCircles yX0_findCircles, Cond.code yX0_findCircles cX0_findCircles 6 none, Cond.fieldLink RX0 21 "StackRuns$Heads" "circling" "I", Cond.fieldLink RX0 25 "StackRuns$Heads" "boundless" "I", Cond.methodLink RX0 91 yX0_leadingTo]
def wsX6_high_r4 : List Cond := [Cond.instanceMethod yX0_leadingTo, Cond.selects RX0 yX0_leadingTo yX0_leadingTo, Cond.code yX0_leadingTo cX0_leadingTo 4 (some .int), Cond.methodLink RX0 47 yX0_findTallest, Cond.instanceMethod yX0_findTallest, Cond.selects RX0 yX0_findTallest yX0_findTallest, Cond.code yX0_findTallest cX0_findTallest 6 none, Cond.fieldLink RX0 18 "StackRuns$Heads" "tallest" "[I", Cond.methodLink RX0 95 yX0_raiseBy, Cond.instanceMethod yX0_raiseBy, Cond.selects RX0 yX0_raiseBy yX0_raiseBy, Cond.code yX0_raiseBy cX0_raiseBy 7 (some .boolean), Cond.methodLink RX0 99 Lib.Math.max.name, Cond.static Lib.Math.max.name, Cond.code Lib.Math.max.name Lib.Math.max.code 2 (some .int), Cond.methodLink RX6 171 yX0_topFrom, Cond.instanceMethod yX0_topFrom, Cond.selects RX0 yX0_topFrom yX0_topFrom, Cond.code yX0_topFrom cX0_topFrom 7 (some .int), Cond.methodLink RX0 115 yX0_headsOf, Cond.instanceMethod yX0_headsOf, Cond.selects RX0 yX0_headsOf yX0_headsOf, Cond.code yX0_headsOf cX0_headsOf 5 (some .int), Cond.methodLink RX0 118 yX0_allExits]
def wsX6_high_r5 : List Cond := [Cond.instanceMethod yX0_allExits, Cond.selects RX0 yX0_allExits yX0_allExits, Cond.code yX0_allExits cX0_allExits 5 (some .int)]
def wsX6_high : List Cond := .code yX6_high cX6_high 1 (some .int) :: ((wsX6_high_r1 ++ (wsX6_high_r2 ++ (wsX6_high_r3 ++ (wsX6_high_r4 ++ wsX6_high_r5)))) ++ wsX60 ++ wsX30 ++ wsX40 ++ wsX00 ++ wsX50)
def wsX6_count : List Cond := .code yX6_count cX6_count 2 (some .int) :: ([.fieldLink RX6 12 "StackRuns" "rules" "LStackRuns$Rules;", .fieldLink RX6 50 "StackRuns" "sets" "I", .fieldLink RX6 19 "StackRuns" "here" "LStackRuns$Stand;", .methodLink RX6 100 yX5_head, .instanceMethod yX5_head, .selects RX5 yX5_head yX5_head, .initialized RX5, .code yX5_head cX5_head 1 (some .int), .fieldLink RX5 15 "StackRuns$Stand" "height" "I", .fieldLink RX5 9 "StackRuns$Stand" "control" "I", .fieldLink RX5 18 "StackRuns$Stand" "signs" "[I", .static yX6_headOf, .initialized RX6, .code yX6_headOf cX6_headOf 2 (some .int), .methodLink RX6 181 yX4_matching, .instanceMethod yX4_matching, .selects RX4 yX4_matching yX4_matching, .initialized RX4, .code yX4_matching cX4_matching 4 (some .int), .fieldLink RX4 18 "StackRuns$Rules" "size" "I", .fieldLink RX4 24 "StackRuns$Rules" "head" "[I"] ++ wsX60 ++ wsX40 ++ wsX50)
def wsX7_init_r1 : List Cond := [Cond.methodLink RX7 1 objectInit, Cond.instanceMethod objectInit, Cond.code objectInit ⟨#[0xb1]⟩ 1 none, Cond.fieldLink RX7 7 "StackRunsModel" "controls" "I", Cond.fieldLink RX7 13 "StackRunsModel" "signs" "I", Cond.arrayClass .int, Cond.fieldLink RX7 16 "StackRunsModel" "ruleP" "[I", Cond.fieldLink RX7 20 "StackRunsModel" "ruleS" "[I", Cond.fieldLink RX7 23 "StackRunsModel" "ruleQ" "[I", Cond.fieldLink RX7 26 "StackRunsModel" "ruleA" "[I", Cond.fieldLink RX7 29 "StackRunsModel" "ruleB" "[I", Cond.fieldLink RX7 32 "StackRunsModel" "stack" "[I", Cond.fieldLink RX7 35 "StackRunsModel" "linkMany" "[I", Cond.fieldLink RX7 38 "StackRunsModel" "linkFrom" "[I", Cond.fieldLink RX7 41 "StackRunsModel" "linkBy" "[I", Cond.fieldLink RX7 44 "StackRunsModel" "linkTo" "[I", Cond.arrayClass .boolean, Cond.fieldLink RX7 47 "StackRunsModel" "isLast" "[Z", Cond.arrayClass .long, Cond.fieldLink RX7 51 "StackRunsModel" "costs" "[J", Cond.fieldLink RX7 55 "StackRunsModel" "links" "[Z", Cond.fieldLink RX7 58 "StackRunsModel" "isSure" "[Z", Cond.fieldLink RX7 61 "StackRunsModel" "trial" "[J", Cond.fieldLink RX7 64 "StackRunsModel" "rest" "[J"]
def wsX7_init_r2 : List Cond := [Cond.fieldLink RX7 67 "StackRunsModel" "reach" "[I", Cond.fieldLink RX7 70 "StackRunsModel" "high" "[I"]
def wsX7_init : List Cond := .code yX7_init cX7_init 1 none :: ((wsX7_init_r1 ++ wsX7_init_r2) ++ wsX70)
def wsX7_isIn : List Cond := .code yX7_isIn cX7_isIn 6 (some .boolean) :: ([])
def wsX7_isControl : List Cond := .code yX7_isControl cX7_isControl 2 (some .boolean) :: ([.fieldLink RX7 7 "StackRunsModel" "controls" "I", .methodLink RX7 73 yX7_isIn, .static yX7_isIn, .initialized RX7, .code yX7_isIn cX7_isIn 6 (some .boolean)] ++ wsX70)
def wsX7_isSign : List Cond := .code yX7_isSign cX7_isSign 2 (some .boolean) :: ([.fieldLink RX7 13 "StackRunsModel" "signs" "I", .methodLink RX7 73 yX7_isIn, .static yX7_isIn, .initialized RX7, .code yX7_isIn cX7_isIn 6 (some .boolean)] ++ wsX70)
def wsX7_machine : List Cond := .code yX7_machine cX7_machine 4 (some .int) :: ([.constantLong RX7 77 (5), .fieldLink RX7 79 "StackRunsModel" "rules" "I", .fieldLink RX7 7 "StackRunsModel" "controls" "I", .fieldLink RX7 13 "StackRunsModel" "signs" "I", .fieldLink RX7 82 "StackRunsModel" "control" "I", .fieldLink RX7 85 "StackRunsModel" "height" "I", .fieldLink RX7 88 "StackRunsModel" "sets" "I", .methodLink RX7 73 yX7_isIn, .static yX7_isIn, .initialized RX7, .code yX7_isIn cX7_isIn 6 (some .boolean)] ++ wsX70)
def wsX7_rule : List Cond := .code yX7_rule cX7_rule 7 (some .int) :: ([.fieldLink RX7 79 "StackRunsModel" "rules" "I", .fieldLink RX7 16 "StackRunsModel" "ruleP" "[I", .fieldLink RX7 20 "StackRunsModel" "ruleS" "[I", .fieldLink RX7 23 "StackRunsModel" "ruleQ" "[I", .fieldLink RX7 26 "StackRunsModel" "ruleA" "[I", .fieldLink RX7 29 "StackRunsModel" "ruleB" "[I", .methodLink RX7 91 yX7_isControl, .instanceMethod yX7_isControl, .selects RX7 yX7_isControl yX7_isControl, .initialized RX7, .code yX7_isControl cX7_isControl 2 (some .boolean), .fieldLink RX7 7 "StackRunsModel" "controls" "I", .methodLink RX7 73 yX7_isIn, .static yX7_isIn, .code yX7_isIn cX7_isIn 6 (some .boolean), .methodLink RX7 95 yX7_isSign, .instanceMethod yX7_isSign, .selects RX7 yX7_isSign yX7_isSign, .code yX7_isSign cX7_isSign 2 (some .boolean), .fieldLink RX7 13 "StackRunsModel" "signs" "I"] ++ wsX70)
def wsX7_unrule : List Cond := .code yX7_unrule cX7_unrule 1 (some .int) :: ([.fieldLink RX7 79 "StackRunsModel" "rules" "I"] ++ wsX70)
def wsX7_stand : List Cond := .code yX7_stand cX7_stand 3 (some .int) :: ([.fieldLink RX7 85 "StackRunsModel" "height" "I", .fieldLink RX7 82 "StackRunsModel" "control" "I", .methodLink RX7 91 yX7_isControl, .instanceMethod yX7_isControl, .selects RX7 yX7_isControl yX7_isControl, .initialized RX7, .code yX7_isControl cX7_isControl 2 (some .boolean), .fieldLink RX7 7 "StackRunsModel" "controls" "I", .methodLink RX7 73 yX7_isIn, .static yX7_isIn, .code yX7_isIn cX7_isIn 6 (some .boolean)] ++ wsX70)
def wsX7_push : List Cond := .code yX7_push cX7_push 2 (some .int) :: ([.fieldLink RX7 85 "StackRunsModel" "height" "I", .fieldLink RX7 32 "StackRunsModel" "stack" "[I", .methodLink RX7 95 yX7_isSign, .instanceMethod yX7_isSign, .selects RX7 yX7_isSign yX7_isSign, .initialized RX7, .code yX7_isSign cX7_isSign 2 (some .boolean), .fieldLink RX7 13 "StackRunsModel" "signs" "I", .methodLink RX7 73 yX7_isIn, .static yX7_isIn, .code yX7_isIn cX7_isIn 6 (some .boolean)] ++ wsX70)
def wsX7_at : List Cond := .code yX7_at cX7_at 2 (some .int) :: ([.fieldLink RX7 82 "StackRunsModel" "control" "I", .fieldLink RX7 85 "StackRunsModel" "height" "I", .fieldLink RX7 32 "StackRunsModel" "stack" "[I", .methodLink RX7 73 yX7_isIn, .static yX7_isIn, .initialized RX7, .code yX7_isIn cX7_isIn 6 (some .boolean)] ++ wsX70)
def wsX7_goes : List Cond := .code yX7_goes cX7_goes 2 (some .boolean) :: ([.fieldLink RX7 85 "StackRunsModel" "height" "I", .fieldLink RX7 16 "StackRunsModel" "ruleP" "[I", .fieldLink RX7 82 "StackRunsModel" "control" "I", .fieldLink RX7 20 "StackRunsModel" "ruleS" "[I", .fieldLink RX7 32 "StackRunsModel" "stack" "[I"] ++ wsX70)
def wsX7_puts : List Cond := .code yX7_puts cX7_puts 2 (some .int) :: ([.fieldLink RX7 26 "StackRunsModel" "ruleA" "[I", .fieldLink RX7 29 "StackRunsModel" "ruleB" "[I"] ++ wsX70)
def wsX7_does : List Cond := .code yX7_does cX7_does 2 none :: ([.fieldLink RX7 85 "StackRunsModel" "height" "I", .fieldLink RX7 32 "StackRunsModel" "stack" "[I", .fieldLink RX7 29 "StackRunsModel" "ruleB" "[I", .fieldLink RX7 26 "StackRunsModel" "ruleA" "[I", .fieldLink RX7 23 "StackRunsModel" "ruleQ" "[I", .fieldLink RX7 82 "StackRunsModel" "control" "I", .methodLink RX7 98 yX7_puts, .instanceMethod yX7_puts, .selects RX7 yX7_puts yX7_puts, .initialized RX7, .code yX7_puts cX7_puts 2 (some .int)] ++ wsX70)
def wsX7_go_r1 : List Cond := [Cond.fieldLink RX7 79 "StackRunsModel" "rules" "I", Cond.fieldLink RX7 85 "StackRunsModel" "height" "I", Cond.methodLink RX7 73 yX7_isIn, Cond.static yX7_isIn, Cond.initialized RX7, Cond.code yX7_isIn cX7_isIn 6 (some .boolean), Cond.methodLink RX7 102 yX7_goes, Cond.instanceMethod yX7_goes, Cond.selects RX7 yX7_goes yX7_goes, Cond.code yX7_goes cX7_goes 2 (some .boolean), Cond.fieldLink RX7 16 "StackRunsModel" "ruleP" "[I", Cond.fieldLink RX7 82 "StackRunsModel" "control" "I", Cond.fieldLink RX7 20 "StackRunsModel" "ruleS" "[I", Cond.fieldLink RX7 32 "StackRunsModel" "stack" "[I", Cond.methodLink RX7 98 yX7_puts, Cond.instanceMethod yX7_puts, Cond.selects RX7 yX7_puts yX7_puts, Cond.code yX7_puts cX7_puts 2 (some .int), Cond.fieldLink RX7 26 "StackRunsModel" "ruleA" "[I", Cond.fieldLink RX7 29 "StackRunsModel" "ruleB" "[I", Cond.methodLink RX7 105 yX7_does, Cond.instanceMethod yX7_does, Cond.selects RX7 yX7_does yX7_does, Cond.code yX7_does cX7_does 2 none]
def wsX7_go_r2 : List Cond := [Cond.fieldLink RX7 23 "StackRunsModel" "ruleQ" "[I"]
def wsX7_go : List Cond := .code yX7_go cX7_go 2 (some .int) :: ((wsX7_go_r1 ++ wsX7_go_r2) ++ wsX70)
def wsX7_isSet : List Cond := .code yX7_isSet cX7_isSet 2 (some .boolean) :: ([.fieldLink RX7 88 "StackRunsModel" "sets" "I", .methodLink RX7 73 yX7_isIn, .static yX7_isIn, .initialized RX7, .code yX7_isIn cX7_isIn 6 (some .boolean)] ++ wsX70)
def wsX7_set : List Cond := .code yX7_set cX7_set 2 (some .int) :: ([.fieldLink RX7 88 "StackRunsModel" "sets" "I", .fieldLink RX7 35 "StackRunsModel" "linkMany" "[I", .fieldLink RX7 47 "StackRunsModel" "isLast" "[Z"] ++ wsX70)
def wsX7_isPlace : List Cond := .code yX7_isPlace cX7_isPlace 3 (some .boolean) :: ([.constantLong RX7 77 (5), .methodLink RX7 91 yX7_isControl, .instanceMethod yX7_isControl, .selects RX7 yX7_isControl yX7_isControl, .initialized RX7, .code yX7_isControl cX7_isControl 2 (some .boolean), .fieldLink RX7 7 "StackRunsModel" "controls" "I", .methodLink RX7 73 yX7_isIn, .static yX7_isIn, .code yX7_isIn cX7_isIn 6 (some .boolean)] ++ wsX70)
def wsX7_link_r1 : List Cond := [Cond.constantLong RX7 77 (5), Cond.fieldLink RX7 35 "StackRunsModel" "linkMany" "[I", Cond.fieldLink RX7 38 "StackRunsModel" "linkFrom" "[I", Cond.fieldLink RX7 41 "StackRunsModel" "linkBy" "[I", Cond.fieldLink RX7 44 "StackRunsModel" "linkTo" "[I", Cond.methodLink RX7 109 yX7_isSet, Cond.instanceMethod yX7_isSet, Cond.selects RX7 yX7_isSet yX7_isSet, Cond.initialized RX7, Cond.code yX7_isSet cX7_isSet 2 (some .boolean), Cond.fieldLink RX7 88 "StackRunsModel" "sets" "I", Cond.methodLink RX7 73 yX7_isIn, Cond.static yX7_isIn, Cond.code yX7_isIn cX7_isIn 6 (some .boolean), Cond.methodLink RX7 112 yX7_isPlace, Cond.instanceMethod yX7_isPlace, Cond.selects RX7 yX7_isPlace yX7_isPlace, Cond.code yX7_isPlace cX7_isPlace 3 (some .boolean), Cond.methodLink RX7 91 yX7_isControl, Cond.instanceMethod yX7_isControl, Cond.selects RX7 yX7_isControl yX7_isControl, Cond.code yX7_isControl cX7_isControl 2 (some .boolean), Cond.fieldLink RX7 7 "StackRunsModel" "controls" "I", Cond.methodLink RX7 95 yX7_isSign]
def wsX7_link_r2 : List Cond := [Cond.instanceMethod yX7_isSign, Cond.selects RX7 yX7_isSign yX7_isSign, Cond.code yX7_isSign cX7_isSign 2 (some .boolean), Cond.fieldLink RX7 13 "StackRunsModel" "signs" "I"]
def wsX7_link : List Cond := .code yX7_link cX7_link 7 (some .int) :: ((wsX7_link_r1 ++ wsX7_link_r2) ++ wsX70)
def wsX7_last : List Cond := .code yX7_last cX7_last 7 (some .int) :: ([.fieldLink RX7 47 "StackRunsModel" "isLast" "[Z", .methodLink RX7 109 yX7_isSet, .instanceMethod yX7_isSet, .selects RX7 yX7_isSet yX7_isSet, .initialized RX7, .code yX7_isSet cX7_isSet 2 (some .boolean), .fieldLink RX7 88 "StackRunsModel" "sets" "I", .methodLink RX7 73 yX7_isIn, .static yX7_isIn, .code yX7_isIn cX7_isIn 6 (some .boolean), .methodLink RX7 112 yX7_isPlace, .instanceMethod yX7_isPlace, .selects RX7 yX7_isPlace yX7_isPlace, .code yX7_isPlace cX7_isPlace 3 (some .boolean), .constantLong RX7 77 (5), .methodLink RX7 91 yX7_isControl, .instanceMethod yX7_isControl, .selects RX7 yX7_isControl yX7_isControl, .code yX7_isControl cX7_isControl 2 (some .boolean), .fieldLink RX7 7 "StackRunsModel" "controls" "I"] ++ wsX70)
def wsX7_unset : List Cond := .code yX7_unset cX7_unset 1 (some .int) :: ([.fieldLink RX7 88 "StackRunsModel" "sets" "I"] ++ wsX70)
def wsX7_isLinked : List Cond := .code yX7_isLinked cX7_isLinked 7 (some .boolean) :: ([.fieldLink RX7 35 "StackRunsModel" "linkMany" "[I", .fieldLink RX7 38 "StackRunsModel" "linkFrom" "[I", .fieldLink RX7 41 "StackRunsModel" "linkBy" "[I", .fieldLink RX7 44 "StackRunsModel" "linkTo" "[I"] ++ wsX70)
def wsX7_holds : List Cond := .code yX7_holds cX7_holds 7 (some .boolean) :: ([.fieldLink RX7 82 "StackRunsModel" "control" "I", .fieldLink RX7 85 "StackRunsModel" "height" "I", .fieldLink RX7 32 "StackRunsModel" "stack" "[I", .fieldLink RX7 47 "StackRunsModel" "isLast" "[Z", .methodLink RX7 116 yX7_isLinked, .instanceMethod yX7_isLinked, .selects RX7 yX7_isLinked yX7_isLinked, .initialized RX7, .code yX7_isLinked cX7_isLinked 7 (some .boolean), .fieldLink RX7 35 "StackRunsModel" "linkMany" "[I", .fieldLink RX7 38 "StackRunsModel" "linkFrom" "[I", .fieldLink RX7 41 "StackRunsModel" "linkBy" "[I", .fieldLink RX7 44 "StackRunsModel" "linkTo" "[I"] ++ wsX70)
def wsX7_in_r1 : List Cond := [Cond.methodLink RX7 109 yX7_isSet, Cond.instanceMethod yX7_isSet, Cond.selects RX7 yX7_isSet yX7_isSet, Cond.initialized RX7, Cond.code yX7_isSet cX7_isSet 2 (some .boolean), Cond.fieldLink RX7 88 "StackRunsModel" "sets" "I", Cond.methodLink RX7 73 yX7_isIn, Cond.static yX7_isIn, Cond.code yX7_isIn cX7_isIn 6 (some .boolean), Cond.methodLink RX7 120 yX7_holds, Cond.instanceMethod yX7_holds, Cond.selects RX7 yX7_holds yX7_holds, Cond.code yX7_holds cX7_holds 7 (some .boolean), Cond.fieldLink RX7 82 "StackRunsModel" "control" "I", Cond.fieldLink RX7 85 "StackRunsModel" "height" "I", Cond.fieldLink RX7 32 "StackRunsModel" "stack" "[I", Cond.fieldLink RX7 47 "StackRunsModel" "isLast" "[Z", Cond.methodLink RX7 116 yX7_isLinked, Cond.instanceMethod yX7_isLinked, Cond.selects RX7 yX7_isLinked yX7_isLinked, Cond.code yX7_isLinked cX7_isLinked 7 (some .boolean), Cond.fieldLink RX7 35 "StackRunsModel" "linkMany" "[I", Cond.fieldLink RX7 38 "StackRunsModel" "linkFrom" "[I", Cond.fieldLink RX7 41 "StackRunsModel" "linkBy" "[I"]
def wsX7_in_r2 : List Cond := [Cond.fieldLink RX7 44 "StackRunsModel" "linkTo" "[I"]
def wsX7_in : List Cond := .code yX7_in cX7_in 2 (some .int) :: ((wsX7_in_r1 ++ wsX7_in_r2) ++ wsX70)
def wsX7_costAt : List Cond := .code yX7_costAt cX7_costAt 3 (some .int) :: ([])
def wsX7_plus : List Cond := .code yX7_plus cX7_plus 4 (some .long) :: ([.constantLong RX7 123 (-1), .constantLong RX7 125 (1000000000000000)])
def wsX7_lesser : List Cond := .code yX7_lesser cX7_lesser 4 (some .long) :: ([])
def wsX7_reading : List Cond := .code yX7_reading cX7_reading 4 (some .long) :: ([.fieldLink RX7 51 "StackRunsModel" "costs" "[J", .fieldLink RX7 55 "StackRunsModel" "links" "[Z", .constantLong RX7 123 (-1), .methodLink RX7 127 yX7_costAt, .static yX7_costAt, .initialized RX7, .code yX7_costAt cX7_costAt 3 (some .int)] ++ wsX70)
def wsX7_byRule_r1 : List Cond := [Cond.fieldLink RX7 23 "StackRunsModel" "ruleQ" "[I", Cond.constantLong RX7 123 (-1), Cond.fieldLink RX7 26 "StackRunsModel" "ruleA" "[I", Cond.fieldLink RX7 29 "StackRunsModel" "ruleB" "[I", Cond.methodLink RX7 98 yX7_puts, Cond.instanceMethod yX7_puts, Cond.selects RX7 yX7_puts yX7_puts, Cond.initialized RX7, Cond.code yX7_puts cX7_puts 2 (some .int), Cond.methodLink RX7 131 yX7_reading, Cond.instanceMethod yX7_reading, Cond.selects RX7 yX7_reading yX7_reading, Cond.code yX7_reading cX7_reading 4 (some .long), Cond.fieldLink RX7 51 "StackRunsModel" "costs" "[J", Cond.fieldLink RX7 55 "StackRunsModel" "links" "[Z", Cond.methodLink RX7 127 yX7_costAt, Cond.static yX7_costAt, Cond.code yX7_costAt cX7_costAt 3 (some .int), Cond.methodLink RX7 135 yX7_plus, Cond.static yX7_plus, Cond.code yX7_plus cX7_plus 4 (some .long), Cond.constantLong RX7 125 (1000000000000000), Cond.methodLink RX7 139 yX7_lesser, Cond.static yX7_lesser]
def wsX7_byRule_r2 : List Cond := [Cond.code yX7_lesser cX7_lesser 4 (some .long)]
def wsX7_byRule : List Cond := .code yX7_byRule cX7_byRule 7 (some .long) :: ((wsX7_byRule_r1 ++ wsX7_byRule_r2) ++ wsX70)
def wsX7_settle_r1 : List Cond := [Cond.constantLong RX7 123 (-1), Cond.fieldLink RX7 61 "StackRunsModel" "trial" "[J", Cond.fieldLink RX7 79 "StackRunsModel" "rules" "I", Cond.fieldLink RX7 16 "StackRunsModel" "ruleP" "[I", Cond.fieldLink RX7 20 "StackRunsModel" "ruleS" "[I", Cond.fieldLink RX7 58 "StackRunsModel" "isSure" "[Z", Cond.fieldLink RX7 51 "StackRunsModel" "costs" "[J", Cond.methodLink RX7 127 yX7_costAt, Cond.static yX7_costAt, Cond.initialized RX7, Cond.code yX7_costAt cX7_costAt 3 (some .int), Cond.methodLink RX7 149 yX7_byRule, Cond.instanceMethod yX7_byRule, Cond.selects RX7 yX7_byRule yX7_byRule, Cond.code yX7_byRule cX7_byRule 7 (some .long), Cond.fieldLink RX7 23 "StackRunsModel" "ruleQ" "[I", Cond.fieldLink RX7 26 "StackRunsModel" "ruleA" "[I", Cond.fieldLink RX7 29 "StackRunsModel" "ruleB" "[I", Cond.methodLink RX7 98 yX7_puts, Cond.instanceMethod yX7_puts, Cond.selects RX7 yX7_puts yX7_puts, Cond.code yX7_puts cX7_puts 2 (some .int), Cond.methodLink RX7 131 yX7_reading, Cond.instanceMethod yX7_reading]
def wsX7_settle_r2 : List Cond := [Cond.selects RX7 yX7_reading yX7_reading, Cond.code yX7_reading cX7_reading 4 (some .long), Cond.fieldLink RX7 55 "StackRunsModel" "links" "[Z", Cond.methodLink RX7 135 yX7_plus, Cond.static yX7_plus, Cond.code yX7_plus cX7_plus 4 (some .long), Cond.constantLong RX7 125 (1000000000000000), Cond.methodLink RX7 139 yX7_lesser, Cond.static yX7_lesser, Cond.code yX7_lesser cX7_lesser 4 (some .long)]
def wsX7_settle : List Cond := .code yX7_settle cX7_settle 6 (some .boolean) :: ((wsX7_settle_r1 ++ wsX7_settle_r2) ++ wsX70)
def wsX7_findCosts_r1 : List Cond := [Cond.fieldLink RX7 142 "StackRunsModel" "netOf" "I", Cond.fieldLink RX7 55 "StackRunsModel" "links" "[Z", Cond.fieldLink RX7 51 "StackRunsModel" "costs" "[J", Cond.constantLong RX7 123 (-1), Cond.fieldLink RX7 58 "StackRunsModel" "isSure" "[Z", Cond.fieldLink RX7 7 "StackRunsModel" "controls" "I", Cond.fieldLink RX7 13 "StackRunsModel" "signs" "I", Cond.methodLink RX7 116 yX7_isLinked, Cond.instanceMethod yX7_isLinked, Cond.selects RX7 yX7_isLinked yX7_isLinked, Cond.initialized RX7, Cond.code yX7_isLinked cX7_isLinked 7 (some .boolean), Cond.fieldLink RX7 35 "StackRunsModel" "linkMany" "[I", Cond.fieldLink RX7 38 "StackRunsModel" "linkFrom" "[I", Cond.fieldLink RX7 41 "StackRunsModel" "linkBy" "[I", Cond.fieldLink RX7 44 "StackRunsModel" "linkTo" "[I", Cond.methodLink RX7 127 yX7_costAt, Cond.static yX7_costAt, Cond.code yX7_costAt cX7_costAt 3 (some .int), Cond.methodLink RX7 145 yX7_settle, Cond.instanceMethod yX7_settle, Cond.selects RX7 yX7_settle yX7_settle, Cond.code yX7_settle cX7_settle 6 (some .boolean), Cond.fieldLink RX7 61 "StackRunsModel" "trial" "[J"]
def wsX7_findCosts_r2 : List Cond := [Cond.fieldLink RX7 79 "StackRunsModel" "rules" "I", Cond.fieldLink RX7 16 "StackRunsModel" "ruleP" "[I", Cond.fieldLink RX7 20 "StackRunsModel" "ruleS" "[I", Cond.methodLink RX7 149 yX7_byRule, Cond.instanceMethod yX7_byRule, Cond.selects RX7 yX7_byRule yX7_byRule, Cond.code yX7_byRule cX7_byRule 7 (some .long), Cond.fieldLink RX7 23 "StackRunsModel" "ruleQ" "[I", Cond.fieldLink RX7 26 "StackRunsModel" "ruleA" "[I", Cond.fieldLink RX7 29 "StackRunsModel" "ruleB" "[I", Cond.methodLink RX7 98 yX7_puts, Cond.instanceMethod yX7_puts, Cond.selects RX7 yX7_puts yX7_puts, Cond.code yX7_puts cX7_puts 2 (some .int), Cond.methodLink RX7 131 yX7_reading, Cond.instanceMethod yX7_reading, Cond.selects RX7 yX7_reading yX7_reading, Cond.code yX7_reading cX7_reading 4 (some .long), Cond.methodLink RX7 135 yX7_plus, Cond.static yX7_plus, Cond.code yX7_plus cX7_plus 4 (some .long), Cond.constantLong RX7 125 (1000000000000000), Cond.methodLink RX7 139 yX7_lesser, Cond.static yX7_lesser]
def wsX7_findCosts_r3 : List Cond := [Cond.code yX7_lesser cX7_lesser 4 (some .long)]
def wsX7_findCosts : List Cond := .code yX7_findCosts cX7_findCosts 5 none :: ((wsX7_findCosts_r1 ++ (wsX7_findCosts_r2 ++ wsX7_findCosts_r3)) ++ wsX70)
def wsX7_readStack : List Cond := .code yX7_readStack cX7_readStack 6 none :: ([.fieldLink RX7 64 "StackRunsModel" "rest" "[J", .fieldLink RX7 47 "StackRunsModel" "isLast" "[Z", .fieldLink RX7 142 "StackRunsModel" "netOf" "I", .constantLong RX7 123 (-1), .fieldLink RX7 85 "StackRunsModel" "height" "I", .fieldLink RX7 32 "StackRunsModel" "stack" "[I", .methodLink RX7 131 yX7_reading, .instanceMethod yX7_reading, .selects RX7 yX7_reading yX7_reading, .initialized RX7, .code yX7_reading cX7_reading 4 (some .long), .fieldLink RX7 51 "StackRunsModel" "costs" "[J", .fieldLink RX7 55 "StackRunsModel" "links" "[Z", .methodLink RX7 127 yX7_costAt, .static yX7_costAt, .code yX7_costAt cX7_costAt 3 (some .int), .methodLink RX7 135 yX7_plus, .static yX7_plus, .code yX7_plus cX7_plus 4 (some .long), .constantLong RX7 125 (1000000000000000), .methodLink RX7 139 yX7_lesser, .static yX7_lesser, .code yX7_lesser cX7_lesser 4 (some .long)] ++ wsX70)
def wsX7_farNow_r1 : List Cond := [Cond.fieldLink RX7 64 "StackRunsModel" "rest" "[J", Cond.fieldLink RX7 85 "StackRunsModel" "height" "I", Cond.fieldLink RX7 82 "StackRunsModel" "control" "I", Cond.methodLink RX7 153 yX7_readStack, Cond.instanceMethod yX7_readStack, Cond.selects RX7 yX7_readStack yX7_readStack, Cond.initialized RX7, Cond.code yX7_readStack cX7_readStack 6 none, Cond.fieldLink RX7 47 "StackRunsModel" "isLast" "[Z", Cond.fieldLink RX7 142 "StackRunsModel" "netOf" "I", Cond.constantLong RX7 123 (-1), Cond.fieldLink RX7 32 "StackRunsModel" "stack" "[I", Cond.methodLink RX7 131 yX7_reading, Cond.instanceMethod yX7_reading, Cond.selects RX7 yX7_reading yX7_reading, Cond.code yX7_reading cX7_reading 4 (some .long), Cond.fieldLink RX7 51 "StackRunsModel" "costs" "[J", Cond.fieldLink RX7 55 "StackRunsModel" "links" "[Z", Cond.methodLink RX7 127 yX7_costAt, Cond.static yX7_costAt, Cond.code yX7_costAt cX7_costAt 3 (some .int), Cond.methodLink RX7 135 yX7_plus, Cond.static yX7_plus, Cond.code yX7_plus cX7_plus 4 (some .long)]
def wsX7_farNow_r2 : List Cond := [Cond.constantLong RX7 125 (1000000000000000), Cond.methodLink RX7 139 yX7_lesser, Cond.static yX7_lesser, Cond.code yX7_lesser cX7_lesser 4 (some .long)]
def wsX7_farNow : List Cond := .code yX7_farNow cX7_farNow 1 (some .long) :: ((wsX7_farNow_r1 ++ wsX7_farNow_r2) ++ wsX70)
def wsX7_far_r1 : List Cond := [Cond.constantLong RX7 156 (-2), Cond.methodLink RX7 109 yX7_isSet, Cond.instanceMethod yX7_isSet, Cond.selects RX7 yX7_isSet yX7_isSet, Cond.initialized RX7, Cond.code yX7_isSet cX7_isSet 2 (some .boolean), Cond.fieldLink RX7 88 "StackRunsModel" "sets" "I", Cond.methodLink RX7 73 yX7_isIn, Cond.static yX7_isIn, Cond.code yX7_isIn cX7_isIn 6 (some .boolean), Cond.methodLink RX7 158 yX7_findCosts, Cond.instanceMethod yX7_findCosts, Cond.selects RX7 yX7_findCosts yX7_findCosts, Cond.code yX7_findCosts cX7_findCosts 5 none, Cond.fieldLink RX7 142 "StackRunsModel" "netOf" "I", Cond.fieldLink RX7 55 "StackRunsModel" "links" "[Z", Cond.fieldLink RX7 51 "StackRunsModel" "costs" "[J", Cond.constantLong RX7 123 (-1), Cond.fieldLink RX7 58 "StackRunsModel" "isSure" "[Z", Cond.fieldLink RX7 7 "StackRunsModel" "controls" "I", Cond.fieldLink RX7 13 "StackRunsModel" "signs" "I", Cond.methodLink RX7 116 yX7_isLinked, Cond.instanceMethod yX7_isLinked, Cond.selects RX7 yX7_isLinked yX7_isLinked]
def wsX7_far_r2 : List Cond := [Cond.code yX7_isLinked cX7_isLinked 7 (some .boolean), Cond.fieldLink RX7 35 "StackRunsModel" "linkMany" "[I", Cond.fieldLink RX7 38 "StackRunsModel" "linkFrom" "[I", Cond.fieldLink RX7 41 "StackRunsModel" "linkBy" "[I", Cond.fieldLink RX7 44 "StackRunsModel" "linkTo" "[I", Cond.methodLink RX7 127 yX7_costAt, Cond.static yX7_costAt, Cond.code yX7_costAt cX7_costAt 3 (some .int), Cond.methodLink RX7 145 yX7_settle, Cond.instanceMethod yX7_settle, Cond.selects RX7 yX7_settle yX7_settle, Cond.code yX7_settle cX7_settle 6 (some .boolean), Cond.fieldLink RX7 61 "StackRunsModel" "trial" "[J", Cond.fieldLink RX7 79 "StackRunsModel" "rules" "I", Cond.fieldLink RX7 16 "StackRunsModel" "ruleP" "[I", Cond.fieldLink RX7 20 "StackRunsModel" "ruleS" "[I", Cond.methodLink RX7 149 yX7_byRule, Cond.instanceMethod yX7_byRule, Cond.selects RX7 yX7_byRule yX7_byRule, Cond.code yX7_byRule cX7_byRule 7 (some .long), Cond.fieldLink RX7 23 "StackRunsModel" "ruleQ" "[I", Cond.fieldLink RX7 26 "StackRunsModel" "ruleA" "[I", Cond.fieldLink RX7 29 "StackRunsModel" "ruleB" "[I", Cond.methodLink RX7 98 yX7_puts]
def wsX7_far_r3 : List Cond := [Cond.instanceMethod yX7_puts, Cond.selects RX7 yX7_puts yX7_puts, Cond.code yX7_puts cX7_puts 2 (some .int), Cond.methodLink RX7 131 yX7_reading, Cond.instanceMethod yX7_reading, Cond.selects RX7 yX7_reading yX7_reading, Cond.code yX7_reading cX7_reading 4 (some .long), Cond.methodLink RX7 135 yX7_plus, Cond.static yX7_plus, Cond.code yX7_plus cX7_plus 4 (some .long), Cond.constantLong RX7 125 (1000000000000000), Cond.methodLink RX7 139 yX7_lesser, Cond.static yX7_lesser, Cond.code yX7_lesser cX7_lesser 4 (some .long), Cond.methodLink RX7 161 yX7_farNow, Cond.instanceMethod yX7_farNow, Cond.selects RX7 yX7_farNow yX7_farNow, Cond.code yX7_farNow cX7_farNow 1 (some .long), Cond.fieldLink RX7 64 "StackRunsModel" "rest" "[J", Cond.fieldLink RX7 85 "StackRunsModel" "height" "I", Cond.fieldLink RX7 82 "StackRunsModel" "control" "I", Cond.methodLink RX7 153 yX7_readStack, Cond.instanceMethod yX7_readStack, Cond.selects RX7 yX7_readStack yX7_readStack]
def wsX7_far_r4 : List Cond := [Cond.code yX7_readStack cX7_readStack 6 none, Cond.fieldLink RX7 47 "StackRunsModel" "isLast" "[Z", Cond.fieldLink RX7 32 "StackRunsModel" "stack" "[I"]
def wsX7_far : List Cond := .code yX7_far cX7_far 2 (some .long) :: ((wsX7_far_r1 ++ (wsX7_far_r2 ++ (wsX7_far_r3 ++ wsX7_far_r4))) ++ wsX70)
def wsX7_nextRule_r1 : List Cond := [Cond.fieldLink RX7 79 "StackRunsModel" "rules" "I", Cond.constantLong RX7 123 (-1), Cond.fieldLink RX7 64 "StackRunsModel" "rest" "[J", Cond.fieldLink RX7 85 "StackRunsModel" "height" "I", Cond.methodLink RX7 102 yX7_goes, Cond.instanceMethod yX7_goes, Cond.selects RX7 yX7_goes yX7_goes, Cond.initialized RX7, Cond.code yX7_goes cX7_goes 2 (some .boolean), Cond.fieldLink RX7 16 "StackRunsModel" "ruleP" "[I", Cond.fieldLink RX7 82 "StackRunsModel" "control" "I", Cond.fieldLink RX7 20 "StackRunsModel" "ruleS" "[I", Cond.fieldLink RX7 32 "StackRunsModel" "stack" "[I", Cond.methodLink RX7 149 yX7_byRule, Cond.instanceMethod yX7_byRule, Cond.selects RX7 yX7_byRule yX7_byRule, Cond.code yX7_byRule cX7_byRule 7 (some .long), Cond.fieldLink RX7 23 "StackRunsModel" "ruleQ" "[I", Cond.fieldLink RX7 26 "StackRunsModel" "ruleA" "[I", Cond.fieldLink RX7 29 "StackRunsModel" "ruleB" "[I", Cond.methodLink RX7 98 yX7_puts, Cond.instanceMethod yX7_puts, Cond.selects RX7 yX7_puts yX7_puts, Cond.code yX7_puts cX7_puts 2 (some .int)]
def wsX7_nextRule_r2 : List Cond := [Cond.methodLink RX7 131 yX7_reading, Cond.instanceMethod yX7_reading, Cond.selects RX7 yX7_reading yX7_reading, Cond.code yX7_reading cX7_reading 4 (some .long), Cond.fieldLink RX7 51 "StackRunsModel" "costs" "[J", Cond.fieldLink RX7 55 "StackRunsModel" "links" "[Z", Cond.methodLink RX7 127 yX7_costAt, Cond.static yX7_costAt, Cond.code yX7_costAt cX7_costAt 3 (some .int), Cond.methodLink RX7 135 yX7_plus, Cond.static yX7_plus, Cond.code yX7_plus cX7_plus 4 (some .long), Cond.constantLong RX7 125 (1000000000000000), Cond.methodLink RX7 139 yX7_lesser, Cond.static yX7_lesser, Cond.code yX7_lesser cX7_lesser 4 (some .long)]
def wsX7_nextRule : List Cond := .code yX7_nextRule cX7_nextRule 7 (some .int) :: ((wsX7_nextRule_r1 ++ wsX7_nextRule_r2) ++ wsX70)
def wsX7_step_r1 : List Cond := [Cond.constantLong RX7 125 (1000000000000000), Cond.fieldLink RX7 85 "StackRunsModel" "height" "I", Cond.methodLink RX7 109 yX7_isSet, Cond.instanceMethod yX7_isSet, Cond.selects RX7 yX7_isSet yX7_isSet, Cond.initialized RX7, Cond.code yX7_isSet cX7_isSet 2 (some .boolean), Cond.fieldLink RX7 88 "StackRunsModel" "sets" "I", Cond.methodLink RX7 73 yX7_isIn, Cond.static yX7_isIn, Cond.code yX7_isIn cX7_isIn 6 (some .boolean), Cond.methodLink RX7 158 yX7_findCosts, Cond.instanceMethod yX7_findCosts, Cond.selects RX7 yX7_findCosts yX7_findCosts, Cond.code yX7_findCosts cX7_findCosts 5 none, Cond.fieldLink RX7 142 "StackRunsModel" "netOf" "I", Cond.fieldLink RX7 55 "StackRunsModel" "links" "[Z", Cond.fieldLink RX7 51 "StackRunsModel" "costs" "[J", Cond.constantLong RX7 123 (-1), Cond.fieldLink RX7 58 "StackRunsModel" "isSure" "[Z", Cond.fieldLink RX7 7 "StackRunsModel" "controls" "I", Cond.fieldLink RX7 13 "StackRunsModel" "signs" "I", Cond.methodLink RX7 116 yX7_isLinked, Cond.instanceMethod yX7_isLinked]
def wsX7_step_r2 : List Cond := [Cond.selects RX7 yX7_isLinked yX7_isLinked, Cond.code yX7_isLinked cX7_isLinked 7 (some .boolean), Cond.fieldLink RX7 35 "StackRunsModel" "linkMany" "[I", Cond.fieldLink RX7 38 "StackRunsModel" "linkFrom" "[I", Cond.fieldLink RX7 41 "StackRunsModel" "linkBy" "[I", Cond.fieldLink RX7 44 "StackRunsModel" "linkTo" "[I", Cond.methodLink RX7 127 yX7_costAt, Cond.static yX7_costAt, Cond.code yX7_costAt cX7_costAt 3 (some .int), Cond.methodLink RX7 145 yX7_settle, Cond.instanceMethod yX7_settle, Cond.selects RX7 yX7_settle yX7_settle, Cond.code yX7_settle cX7_settle 6 (some .boolean), Cond.fieldLink RX7 61 "StackRunsModel" "trial" "[J", Cond.fieldLink RX7 79 "StackRunsModel" "rules" "I", Cond.fieldLink RX7 16 "StackRunsModel" "ruleP" "[I", Cond.fieldLink RX7 20 "StackRunsModel" "ruleS" "[I", Cond.methodLink RX7 149 yX7_byRule, Cond.instanceMethod yX7_byRule, Cond.selects RX7 yX7_byRule yX7_byRule, Cond.code yX7_byRule cX7_byRule 7 (some .long), Cond.fieldLink RX7 23 "StackRunsModel" "ruleQ" "[I", Cond.fieldLink RX7 26 "StackRunsModel" "ruleA" "[I", Cond.fieldLink RX7 29 "StackRunsModel" "ruleB" "[I"]
def wsX7_step_r3 : List Cond := [Cond.methodLink RX7 98 yX7_puts, Cond.instanceMethod yX7_puts, Cond.selects RX7 yX7_puts yX7_puts, Cond.code yX7_puts cX7_puts 2 (some .int), Cond.methodLink RX7 131 yX7_reading, Cond.instanceMethod yX7_reading, Cond.selects RX7 yX7_reading yX7_reading, Cond.code yX7_reading cX7_reading 4 (some .long), Cond.methodLink RX7 135 yX7_plus, Cond.static yX7_plus, Cond.code yX7_plus cX7_plus 4 (some .long), Cond.methodLink RX7 139 yX7_lesser, Cond.static yX7_lesser, Cond.code yX7_lesser cX7_lesser 4 (some .long), Cond.methodLink RX7 161 yX7_farNow, Cond.instanceMethod yX7_farNow, Cond.selects RX7 yX7_farNow yX7_farNow, Cond.code yX7_farNow cX7_farNow 1 (some .long), Cond.fieldLink RX7 64 "StackRunsModel" "rest" "[J", Cond.fieldLink RX7 82 "StackRunsModel" "control" "I", Cond.methodLink RX7 153 yX7_readStack, Cond.instanceMethod yX7_readStack, Cond.selects RX7 yX7_readStack yX7_readStack, Cond.code yX7_readStack cX7_readStack 6 none]
def wsX7_step_r4 : List Cond := [Cond.fieldLink RX7 47 "StackRunsModel" "isLast" "[Z", Cond.fieldLink RX7 32 "StackRunsModel" "stack" "[I", Cond.methodLink RX7 165 yX7_nextRule, Cond.instanceMethod yX7_nextRule, Cond.selects RX7 yX7_nextRule yX7_nextRule, Cond.code yX7_nextRule cX7_nextRule 7 (some .int), Cond.methodLink RX7 102 yX7_goes, Cond.instanceMethod yX7_goes, Cond.selects RX7 yX7_goes yX7_goes, Cond.code yX7_goes cX7_goes 2 (some .boolean), Cond.methodLink RX7 105 yX7_does, Cond.instanceMethod yX7_does, Cond.selects RX7 yX7_does yX7_does, Cond.code yX7_does cX7_does 2 none]
def wsX7_step : List Cond := .code yX7_step cX7_step 5 (some .int) :: ((wsX7_step_r1 ++ (wsX7_step_r2 ++ (wsX7_step_r3 ++ wsX7_step_r4))) ++ wsX70)
def wsX7_run_r1 : List Cond := [Cond.constantLong RX7 169 (2000), Cond.constantLong RX7 125 (1000000000000000), Cond.fieldLink RX7 85 "StackRunsModel" "height" "I", Cond.methodLink RX7 109 yX7_isSet, Cond.instanceMethod yX7_isSet, Cond.selects RX7 yX7_isSet yX7_isSet, Cond.initialized RX7, Cond.code yX7_isSet cX7_isSet 2 (some .boolean), Cond.fieldLink RX7 88 "StackRunsModel" "sets" "I", Cond.methodLink RX7 73 yX7_isIn, Cond.static yX7_isIn, Cond.code yX7_isIn cX7_isIn 6 (some .boolean), Cond.methodLink RX7 158 yX7_findCosts, Cond.instanceMethod yX7_findCosts, Cond.selects RX7 yX7_findCosts yX7_findCosts, Cond.code yX7_findCosts cX7_findCosts 5 none, Cond.fieldLink RX7 142 "StackRunsModel" "netOf" "I", Cond.fieldLink RX7 55 "StackRunsModel" "links" "[Z", Cond.fieldLink RX7 51 "StackRunsModel" "costs" "[J", Cond.constantLong RX7 123 (-1), Cond.fieldLink RX7 58 "StackRunsModel" "isSure" "[Z", Cond.fieldLink RX7 7 "StackRunsModel" "controls" "I", Cond.fieldLink RX7 13 "StackRunsModel" "signs" "I", Cond.methodLink RX7 116 yX7_isLinked]
def wsX7_run_r2 : List Cond := [Cond.instanceMethod yX7_isLinked, Cond.selects RX7 yX7_isLinked yX7_isLinked, Cond.code yX7_isLinked cX7_isLinked 7 (some .boolean), Cond.fieldLink RX7 35 "StackRunsModel" "linkMany" "[I", Cond.fieldLink RX7 38 "StackRunsModel" "linkFrom" "[I", Cond.fieldLink RX7 41 "StackRunsModel" "linkBy" "[I", Cond.fieldLink RX7 44 "StackRunsModel" "linkTo" "[I", Cond.methodLink RX7 127 yX7_costAt, Cond.static yX7_costAt, Cond.code yX7_costAt cX7_costAt 3 (some .int), Cond.methodLink RX7 145 yX7_settle, Cond.instanceMethod yX7_settle, Cond.selects RX7 yX7_settle yX7_settle, Cond.code yX7_settle cX7_settle 6 (some .boolean), Cond.fieldLink RX7 61 "StackRunsModel" "trial" "[J", Cond.fieldLink RX7 79 "StackRunsModel" "rules" "I", Cond.fieldLink RX7 16 "StackRunsModel" "ruleP" "[I", Cond.fieldLink RX7 20 "StackRunsModel" "ruleS" "[I", Cond.methodLink RX7 149 yX7_byRule, Cond.instanceMethod yX7_byRule, Cond.selects RX7 yX7_byRule yX7_byRule, Cond.code yX7_byRule cX7_byRule 7 (some .long), Cond.fieldLink RX7 23 "StackRunsModel" "ruleQ" "[I", Cond.fieldLink RX7 26 "StackRunsModel" "ruleA" "[I"]
def wsX7_run_r3 : List Cond := [Cond.fieldLink RX7 29 "StackRunsModel" "ruleB" "[I", Cond.methodLink RX7 98 yX7_puts, Cond.instanceMethod yX7_puts, Cond.selects RX7 yX7_puts yX7_puts, Cond.code yX7_puts cX7_puts 2 (some .int), Cond.methodLink RX7 131 yX7_reading, Cond.instanceMethod yX7_reading, Cond.selects RX7 yX7_reading yX7_reading, Cond.code yX7_reading cX7_reading 4 (some .long), Cond.methodLink RX7 135 yX7_plus, Cond.static yX7_plus, Cond.code yX7_plus cX7_plus 4 (some .long), Cond.methodLink RX7 139 yX7_lesser, Cond.static yX7_lesser, Cond.code yX7_lesser cX7_lesser 4 (some .long), Cond.methodLink RX7 161 yX7_farNow, Cond.instanceMethod yX7_farNow, Cond.selects RX7 yX7_farNow yX7_farNow, Cond.code yX7_farNow cX7_farNow 1 (some .long), Cond.fieldLink RX7 64 "StackRunsModel" "rest" "[J", Cond.fieldLink RX7 82 "StackRunsModel" "control" "I", Cond.methodLink RX7 153 yX7_readStack, Cond.instanceMethod yX7_readStack, Cond.selects RX7 yX7_readStack yX7_readStack]
def wsX7_run_r4 : List Cond := [Cond.code yX7_readStack cX7_readStack 6 none, Cond.fieldLink RX7 47 "StackRunsModel" "isLast" "[Z", Cond.fieldLink RX7 32 "StackRunsModel" "stack" "[I", Cond.methodLink RX7 165 yX7_nextRule, Cond.instanceMethod yX7_nextRule, Cond.selects RX7 yX7_nextRule yX7_nextRule, Cond.code yX7_nextRule cX7_nextRule 7 (some .int), Cond.methodLink RX7 102 yX7_goes, Cond.instanceMethod yX7_goes, Cond.selects RX7 yX7_goes yX7_goes, Cond.code yX7_goes cX7_goes 2 (some .boolean), Cond.methodLink RX7 105 yX7_does, Cond.instanceMethod yX7_does, Cond.selects RX7 yX7_does yX7_does, Cond.code yX7_does cX7_does 2 none]
def wsX7_run : List Cond := .code yX7_run cX7_run 7 (some .int) :: ((wsX7_run_r1 ++ (wsX7_run_r2 ++ (wsX7_run_r3 ++ wsX7_run_r4))) ++ wsX70)
def wsX7_pop_r1 : List Cond := [Cond.constantLong RX7 156 (-2), Cond.fieldLink RX7 51 "StackRunsModel" "costs" "[J", Cond.methodLink RX7 91 yX7_isControl, Cond.instanceMethod yX7_isControl, Cond.selects RX7 yX7_isControl yX7_isControl, Cond.initialized RX7, Cond.code yX7_isControl cX7_isControl 2 (some .boolean), Cond.fieldLink RX7 7 "StackRunsModel" "controls" "I", Cond.methodLink RX7 73 yX7_isIn, Cond.static yX7_isIn, Cond.code yX7_isIn cX7_isIn 6 (some .boolean), Cond.methodLink RX7 95 yX7_isSign, Cond.instanceMethod yX7_isSign, Cond.selects RX7 yX7_isSign yX7_isSign, Cond.code yX7_isSign cX7_isSign 2 (some .boolean), Cond.fieldLink RX7 13 "StackRunsModel" "signs" "I", Cond.methodLink RX7 158 yX7_findCosts, Cond.instanceMethod yX7_findCosts, Cond.selects RX7 yX7_findCosts yX7_findCosts, Cond.code yX7_findCosts cX7_findCosts 5 none, Cond.fieldLink RX7 142 "StackRunsModel" "netOf" "I", Cond.fieldLink RX7 55 "StackRunsModel" "links" "[Z", Cond.constantLong RX7 123 (-1), Cond.fieldLink RX7 58 "StackRunsModel" "isSure" "[Z"]
def wsX7_pop_r2 : List Cond := [Cond.methodLink RX7 116 yX7_isLinked, Cond.instanceMethod yX7_isLinked, Cond.selects RX7 yX7_isLinked yX7_isLinked, Cond.code yX7_isLinked cX7_isLinked 7 (some .boolean), Cond.fieldLink RX7 35 "StackRunsModel" "linkMany" "[I", Cond.fieldLink RX7 38 "StackRunsModel" "linkFrom" "[I", Cond.fieldLink RX7 41 "StackRunsModel" "linkBy" "[I", Cond.fieldLink RX7 44 "StackRunsModel" "linkTo" "[I", Cond.methodLink RX7 127 yX7_costAt, Cond.static yX7_costAt, Cond.code yX7_costAt cX7_costAt 3 (some .int), Cond.methodLink RX7 145 yX7_settle, Cond.instanceMethod yX7_settle, Cond.selects RX7 yX7_settle yX7_settle, Cond.code yX7_settle cX7_settle 6 (some .boolean), Cond.fieldLink RX7 61 "StackRunsModel" "trial" "[J", Cond.fieldLink RX7 79 "StackRunsModel" "rules" "I", Cond.fieldLink RX7 16 "StackRunsModel" "ruleP" "[I", Cond.fieldLink RX7 20 "StackRunsModel" "ruleS" "[I", Cond.methodLink RX7 149 yX7_byRule, Cond.instanceMethod yX7_byRule, Cond.selects RX7 yX7_byRule yX7_byRule, Cond.code yX7_byRule cX7_byRule 7 (some .long), Cond.fieldLink RX7 23 "StackRunsModel" "ruleQ" "[I"]
def wsX7_pop_r3 : List Cond := [Cond.fieldLink RX7 26 "StackRunsModel" "ruleA" "[I", Cond.fieldLink RX7 29 "StackRunsModel" "ruleB" "[I", Cond.methodLink RX7 98 yX7_puts, Cond.instanceMethod yX7_puts, Cond.selects RX7 yX7_puts yX7_puts, Cond.code yX7_puts cX7_puts 2 (some .int), Cond.methodLink RX7 131 yX7_reading, Cond.instanceMethod yX7_reading, Cond.selects RX7 yX7_reading yX7_reading, Cond.code yX7_reading cX7_reading 4 (some .long), Cond.methodLink RX7 135 yX7_plus, Cond.static yX7_plus, Cond.code yX7_plus cX7_plus 4 (some .long), Cond.constantLong RX7 125 (1000000000000000), Cond.methodLink RX7 139 yX7_lesser, Cond.static yX7_lesser, Cond.code yX7_lesser cX7_lesser 4 (some .long)]
def wsX7_pop : List Cond := .code yX7_pop cX7_pop 4 (some .long) :: ((wsX7_pop_r1 ++ (wsX7_pop_r2 ++ wsX7_pop_r3)) ++ wsX70)
def wsX7_headsBy : List Cond := .code yX7_headsBy cX7_headsBy 4 (some .int) :: ([.fieldLink RX7 23 "StackRunsModel" "ruleQ" "[I", .fieldLink RX7 26 "StackRunsModel" "ruleA" "[I", .fieldLink RX7 7 "StackRunsModel" "controls" "I", .fieldLink RX7 51 "StackRunsModel" "costs" "[J", .fieldLink RX7 29 "StackRunsModel" "ruleB" "[I", .methodLink RX7 98 yX7_puts, .instanceMethod yX7_puts, .selects RX7 yX7_puts yX7_puts, .initialized RX7, .code yX7_puts cX7_puts 2 (some .int), .methodLink RX7 127 yX7_costAt, .static yX7_costAt, .code yX7_costAt cX7_costAt 3 (some .int)] ++ wsX70)
def wsX7_findReach : List Cond := .code yX7_findReach cX7_findReach 6 none :: ([.fieldLink RX7 67 "StackRunsModel" "reach" "[I", .fieldLink RX7 79 "StackRunsModel" "rules" "I", .fieldLink RX7 16 "StackRunsModel" "ruleP" "[I", .fieldLink RX7 20 "StackRunsModel" "ruleS" "[I", .methodLink RX7 171 yX7_headsBy, .instanceMethod yX7_headsBy, .selects RX7 yX7_headsBy yX7_headsBy, .initialized RX7, .code yX7_headsBy cX7_headsBy 4 (some .int), .fieldLink RX7 23 "StackRunsModel" "ruleQ" "[I", .fieldLink RX7 26 "StackRunsModel" "ruleA" "[I", .fieldLink RX7 7 "StackRunsModel" "controls" "I", .fieldLink RX7 51 "StackRunsModel" "costs" "[J", .fieldLink RX7 29 "StackRunsModel" "ruleB" "[I", .methodLink RX7 98 yX7_puts, .instanceMethod yX7_puts, .selects RX7 yX7_puts yX7_puts, .code yX7_puts cX7_puts 2 (some .int), .methodLink RX7 127 yX7_costAt, .static yX7_costAt, .code yX7_costAt cX7_costAt 3 (some .int)] ++ wsX70)
def wsX7_isForEver : List Cond := .code yX7_isForEver cX7_isForEver 4 (some .boolean) :: ([.fieldLink RX7 67 "StackRunsModel" "reach" "[I"] ++ wsX70)
def wsX7_popped : List Cond := .code yX7_popped cX7_popped 6 (some .int) :: ([.fieldLink RX7 7 "StackRunsModel" "controls" "I", .fieldLink RX7 51 "StackRunsModel" "costs" "[J", .methodLink RX7 127 yX7_costAt, .static yX7_costAt, .initialized RX7, .code yX7_costAt cX7_costAt 3 (some .int)] ++ wsX70)
def wsX7_endless_r1 : List Cond := [Cond.fieldLink RX7 82 "StackRunsModel" "control" "I", Cond.fieldLink RX7 85 "StackRunsModel" "height" "I", Cond.fieldLink RX7 7 "StackRunsModel" "controls" "I", Cond.fieldLink RX7 32 "StackRunsModel" "stack" "[I", Cond.methodLink RX7 158 yX7_findCosts, Cond.instanceMethod yX7_findCosts, Cond.selects RX7 yX7_findCosts yX7_findCosts, Cond.initialized RX7, Cond.code yX7_findCosts cX7_findCosts 5 none, Cond.fieldLink RX7 142 "StackRunsModel" "netOf" "I", Cond.fieldLink RX7 55 "StackRunsModel" "links" "[Z", Cond.fieldLink RX7 51 "StackRunsModel" "costs" "[J", Cond.constantLong RX7 123 (-1), Cond.fieldLink RX7 58 "StackRunsModel" "isSure" "[Z", Cond.fieldLink RX7 13 "StackRunsModel" "signs" "I", Cond.methodLink RX7 116 yX7_isLinked, Cond.instanceMethod yX7_isLinked, Cond.selects RX7 yX7_isLinked yX7_isLinked, Cond.code yX7_isLinked cX7_isLinked 7 (some .boolean), Cond.fieldLink RX7 35 "StackRunsModel" "linkMany" "[I", Cond.fieldLink RX7 38 "StackRunsModel" "linkFrom" "[I", Cond.fieldLink RX7 41 "StackRunsModel" "linkBy" "[I", Cond.fieldLink RX7 44 "StackRunsModel" "linkTo" "[I", Cond.methodLink RX7 127 yX7_costAt]
def wsX7_endless_r2 : List Cond := [Cond.static yX7_costAt, Cond.code yX7_costAt cX7_costAt 3 (some .int), Cond.methodLink RX7 145 yX7_settle, Cond.instanceMethod yX7_settle, Cond.selects RX7 yX7_settle yX7_settle, Cond.code yX7_settle cX7_settle 6 (some .boolean), Cond.fieldLink RX7 61 "StackRunsModel" "trial" "[J", Cond.fieldLink RX7 79 "StackRunsModel" "rules" "I", Cond.fieldLink RX7 16 "StackRunsModel" "ruleP" "[I", Cond.fieldLink RX7 20 "StackRunsModel" "ruleS" "[I", Cond.methodLink RX7 149 yX7_byRule, Cond.instanceMethod yX7_byRule, Cond.selects RX7 yX7_byRule yX7_byRule, Cond.code yX7_byRule cX7_byRule 7 (some .long), Cond.fieldLink RX7 23 "StackRunsModel" "ruleQ" "[I", Cond.fieldLink RX7 26 "StackRunsModel" "ruleA" "[I", Cond.fieldLink RX7 29 "StackRunsModel" "ruleB" "[I", Cond.methodLink RX7 98 yX7_puts, Cond.instanceMethod yX7_puts, Cond.selects RX7 yX7_puts yX7_puts, Cond.code yX7_puts cX7_puts 2 (some .int), Cond.methodLink RX7 131 yX7_reading, Cond.instanceMethod yX7_reading, Cond.selects RX7 yX7_reading yX7_reading]
def wsX7_endless_r3 : List Cond := [Cond.code yX7_reading cX7_reading 4 (some .long), Cond.methodLink RX7 135 yX7_plus, Cond.static yX7_plus, Cond.code yX7_plus cX7_plus 4 (some .long), Cond.constantLong RX7 125 (1000000000000000), Cond.methodLink RX7 139 yX7_lesser, Cond.static yX7_lesser, Cond.code yX7_lesser cX7_lesser 4 (some .long), Cond.methodLink RX7 174 yX7_findReach, Cond.instanceMethod yX7_findReach, Cond.selects RX7 yX7_findReach yX7_findReach, Cond.code yX7_findReach cX7_findReach 6 none, Cond.fieldLink RX7 67 "StackRunsModel" "reach" "[I", Cond.methodLink RX7 171 yX7_headsBy, Cond.instanceMethod yX7_headsBy, Cond.selects RX7 yX7_headsBy yX7_headsBy, Cond.code yX7_headsBy cX7_headsBy 4 (some .int), Cond.methodLink RX7 177 yX7_isForEver, Cond.instanceMethod yX7_isForEver, Cond.selects RX7 yX7_isForEver yX7_isForEver, Cond.code yX7_isForEver cX7_isForEver 4 (some .boolean), Cond.methodLink RX7 180 yX7_popped, Cond.instanceMethod yX7_popped, Cond.selects RX7 yX7_popped yX7_popped]
def wsX7_endless_r4 : List Cond := [Cond.code yX7_popped cX7_popped 6 (some .int)]
def wsX7_endless : List Cond := .code yX7_endless cX7_endless 5 (some .int) :: ((wsX7_endless_r1 ++ (wsX7_endless_r2 ++ (wsX7_endless_r3 ++ wsX7_endless_r4))) ++ wsX70)
def wsX7_findHigh : List Cond := .code yX7_findHigh cX7_findHigh 9 none :: ([.fieldLink RX7 70 "StackRunsModel" "high" "[I", .fieldLink RX7 79 "StackRunsModel" "rules" "I", .fieldLink RX7 16 "StackRunsModel" "ruleP" "[I", .fieldLink RX7 20 "StackRunsModel" "ruleS" "[I", .fieldLink RX7 23 "StackRunsModel" "ruleQ" "[I", .fieldLink RX7 26 "StackRunsModel" "ruleA" "[I", .methodLink RX7 171 yX7_headsBy, .instanceMethod yX7_headsBy, .selects RX7 yX7_headsBy yX7_headsBy, .initialized RX7, .code yX7_headsBy cX7_headsBy 4 (some .int), .fieldLink RX7 7 "StackRunsModel" "controls" "I", .fieldLink RX7 51 "StackRunsModel" "costs" "[J", .fieldLink RX7 29 "StackRunsModel" "ruleB" "[I", .methodLink RX7 98 yX7_puts, .instanceMethod yX7_puts, .selects RX7 yX7_puts yX7_puts, .code yX7_puts cX7_puts 2 (some .int), .methodLink RX7 127 yX7_costAt, .static yX7_costAt, .code yX7_costAt cX7_costAt 3 (some .int)] ++ wsX70)
def wsX7_high_r1 : List Cond := [Cond.fieldLink RX7 82 "StackRunsModel" "control" "I", Cond.fieldLink RX7 85 "StackRunsModel" "height" "I", Cond.fieldLink RX7 7 "StackRunsModel" "controls" "I", Cond.fieldLink RX7 70 "StackRunsModel" "high" "[I", Cond.fieldLink RX7 32 "StackRunsModel" "stack" "[I", Cond.methodLink RX7 158 yX7_findCosts, Cond.instanceMethod yX7_findCosts, Cond.selects RX7 yX7_findCosts yX7_findCosts, Cond.initialized RX7, Cond.code yX7_findCosts cX7_findCosts 5 none, Cond.fieldLink RX7 142 "StackRunsModel" "netOf" "I", Cond.fieldLink RX7 55 "StackRunsModel" "links" "[Z", Cond.fieldLink RX7 51 "StackRunsModel" "costs" "[J", Cond.constantLong RX7 123 (-1), Cond.fieldLink RX7 58 "StackRunsModel" "isSure" "[Z", Cond.fieldLink RX7 13 "StackRunsModel" "signs" "I", Cond.methodLink RX7 116 yX7_isLinked, Cond.instanceMethod yX7_isLinked, Cond.selects RX7 yX7_isLinked yX7_isLinked, Cond.code yX7_isLinked cX7_isLinked 7 (some .boolean), Cond.fieldLink RX7 35 "StackRunsModel" "linkMany" "[I", Cond.fieldLink RX7 38 "StackRunsModel" "linkFrom" "[I", Cond.fieldLink RX7 41 "StackRunsModel" "linkBy" "[I", Cond.fieldLink RX7 44 "StackRunsModel" "linkTo" "[I"]
def wsX7_high_r2 : List Cond := [Cond.methodLink RX7 127 yX7_costAt, Cond.static yX7_costAt, Cond.code yX7_costAt cX7_costAt 3 (some .int), Cond.methodLink RX7 145 yX7_settle, Cond.instanceMethod yX7_settle, Cond.selects RX7 yX7_settle yX7_settle, Cond.code yX7_settle cX7_settle 6 (some .boolean), Cond.fieldLink RX7 61 "StackRunsModel" "trial" "[J", Cond.fieldLink RX7 79 "StackRunsModel" "rules" "I", Cond.fieldLink RX7 16 "StackRunsModel" "ruleP" "[I", Cond.fieldLink RX7 20 "StackRunsModel" "ruleS" "[I", Cond.methodLink RX7 149 yX7_byRule, Cond.instanceMethod yX7_byRule, Cond.selects RX7 yX7_byRule yX7_byRule, Cond.code yX7_byRule cX7_byRule 7 (some .long), Cond.fieldLink RX7 23 "StackRunsModel" "ruleQ" "[I", Cond.fieldLink RX7 26 "StackRunsModel" "ruleA" "[I", Cond.fieldLink RX7 29 "StackRunsModel" "ruleB" "[I", Cond.methodLink RX7 98 yX7_puts, Cond.instanceMethod yX7_puts, Cond.selects RX7 yX7_puts yX7_puts, Cond.code yX7_puts cX7_puts 2 (some .int), Cond.methodLink RX7 131 yX7_reading, Cond.instanceMethod yX7_reading]
def wsX7_high_r3 : List Cond := [Cond.selects RX7 yX7_reading yX7_reading, Cond.code yX7_reading cX7_reading 4 (some .long), Cond.methodLink RX7 135 yX7_plus, Cond.static yX7_plus, Cond.code yX7_plus cX7_plus 4 (some .long), Cond.constantLong RX7 125 (1000000000000000), Cond.methodLink RX7 139 yX7_lesser, Cond.static yX7_lesser, Cond.code yX7_lesser cX7_lesser 4 (some .long), Cond.methodLink RX7 184 yX7_findHigh, Cond.instanceMethod yX7_findHigh, Cond.selects RX7 yX7_findHigh yX7_findHigh, Cond.code yX7_findHigh cX7_findHigh 9 none, Cond.methodLink RX7 171 yX7_headsBy, Cond.instanceMethod yX7_headsBy, Cond.selects RX7 yX7_headsBy yX7_headsBy, Cond.code yX7_headsBy cX7_headsBy 4 (some .int), Cond.methodLink RX7 180 yX7_popped, Cond.instanceMethod yX7_popped, Cond.selects RX7 yX7_popped yX7_popped, Cond.code yX7_popped cX7_popped 6 (some .int)]
def wsX7_high : List Cond := .code yX7_high cX7_high 6 (some .int) :: ((wsX7_high_r1 ++ (wsX7_high_r2 ++ wsX7_high_r3)) ++ wsX70)
def wsX7_count : List Cond := .code yX7_count cX7_count 4 (some .int) :: ([.fieldLink RX7 7 "StackRunsModel" "controls" "I", .fieldLink RX7 13 "StackRunsModel" "signs" "I", .fieldLink RX7 79 "StackRunsModel" "rules" "I", .fieldLink RX7 88 "StackRunsModel" "sets" "I", .fieldLink RX7 85 "StackRunsModel" "height" "I", .methodLink RX7 102 yX7_goes, .instanceMethod yX7_goes, .selects RX7 yX7_goes yX7_goes, .initialized RX7, .code yX7_goes cX7_goes 2 (some .boolean), .fieldLink RX7 16 "StackRunsModel" "ruleP" "[I", .fieldLink RX7 82 "StackRunsModel" "control" "I", .fieldLink RX7 20 "StackRunsModel" "ruleS" "[I", .fieldLink RX7 32 "StackRunsModel" "stack" "[I"] ++ wsX70)
def wsJ9_max_7cf53 : List Cond := .code yJ9_max_7cf53 cJ9_max_7cf53 2 (some .int) :: ([])
def wsJ9_min_f86c9 : List Cond := .code yJ9_min_f86c9 cJ9_min_f86c9 4 (some .long) :: ([])
def wsL_law_r1 : List Cond := [Cond.classLink RL 7 RX6, Cond.instantiable RX6 7, Cond.initialized RX6, Cond.classLink RL 10 RX7, Cond.instantiable RX7 25, Cond.initialized RX7, Cond.methodLink RL 9 yX6_init, Cond.instanceMethod yX6_init, Cond.code yX6_init cX6_init 2 none, Cond.methodLink RX6 3 objectInit, Cond.instanceMethod objectInit, Cond.code objectInit ⟨#[0xb1]⟩ 1 none, Cond.classLink RX6 9 RX4, Cond.instantiable RX4 8, Cond.initialized RX4, Cond.fieldLink RX6 12 "StackRuns" "rules" "LStackRuns$Rules;", Cond.classLink RX6 16 RX5, Cond.instantiable RX5 3, Cond.initialized RX5, Cond.fieldLink RX6 19 "StackRuns" "here" "LStackRuns$Stand;", Cond.classLink RX6 23 RX2, Cond.fieldLink RX6 25 "StackRuns" "nets" "[LStackRuns$Net;", Cond.classLink RX6 29 RX3, Cond.instantiable RX3 2]
def wsL_law_r2 : List Cond := [Cond.initialized RX3, Cond.fieldLink RX6 32 "StackRuns" "pops" "LStackRuns$Pops;", Cond.classLink RX6 36 RX0, Cond.instantiable RX0 6, Cond.initialized RX0, Cond.fieldLink RX6 39 "StackRuns" "heads" "LStackRuns$Heads;", Cond.classLink RX6 43 RX1, Cond.instantiable RX1 1, Cond.initialized RX1, Cond.fieldLink RX6 46 "StackRuns" "ladder" "LStackRuns$Ladder;", Cond.fieldLink RX6 50 "StackRuns" "sets" "I", Cond.instantiable RX2 6, Cond.initialized RX2, Cond.instanceMethod yX4_init, Cond.code yX4_init cX4_init 1 none, Cond.methodLink RX4 3 objectInit, Cond.fieldLink RX4 9 "StackRuns$Rules" "controls" "I", Cond.fieldLink RX4 15 "StackRuns$Rules" "alphabet" "I", Cond.fieldLink RX4 18 "StackRuns$Rules" "size" "I", Cond.fieldLink RX4 21 "StackRuns$Rules" "stamp" "I", Cond.arrayClass .int, Cond.fieldLink RX4 24 "StackRuns$Rules" "head" "[I", Cond.fieldLink RX4 28 "StackRuns$Rules" "to" "[I", Cond.fieldLink RX4 31 "StackRuns$Rules" "top" "[I"]
def wsL_law_r3 : List Cond := [Cond.fieldLink RX4 34 "StackRuns$Rules" "below" "[I", Cond.instanceMethod yX5_init, Cond.code yX5_init cX5_init 1 none, Cond.methodLink RX5 3 objectInit, Cond.fieldLink RX5 9 "StackRuns$Stand" "control" "I", Cond.fieldLink RX5 15 "StackRuns$Stand" "height" "I", Cond.fieldLink RX5 18 "StackRuns$Stand" "signs" "[I", Cond.instanceMethod yX3_init, Cond.code yX3_init cX3_init 1 none, Cond.methodLink RX3 3 objectInit, Cond.arrayClass .long, Cond.fieldLink RX3 9 "StackRuns$Pops" "least" "[J", Cond.fieldLink RX3 15 "StackRuns$Pops" "seen" "I", Cond.instanceMethod yX0_init, Cond.code yX0_init cX0_init 1 none, Cond.methodLink RX0 3 objectInit, Cond.fieldLink RX0 9 "StackRuns$Heads" "exits" "[I", Cond.fieldLink RX0 15 "StackRuns$Heads" "ahead" "[I", Cond.fieldLink RX0 18 "StackRuns$Heads" "tallest" "[I", Cond.fieldLink RX0 21 "StackRuns$Heads" "circling" "I", Cond.fieldLink RX0 25 "StackRuns$Heads" "boundless" "I", Cond.fieldLink RX0 28 "StackRuns$Heads" "seen" "I", Cond.instanceMethod yX1_init, Cond.code yX1_init cX1_init 1 none]
def wsL_law_r4 : List Cond := [Cond.methodLink RX1 3 objectInit, Cond.fieldLink RX1 9 "StackRuns$Ladder" "rows" "[J", Cond.instanceMethod yX2_init, Cond.code yX2_init cX2_init 1 none, Cond.methodLink RX2 3 objectInit, Cond.fieldLink RX2 9 "StackRuns$Net" "links" "I", Cond.fieldLink RX2 15 "StackRuns$Net" "lastPlaces" "I", Cond.fieldLink RX2 18 "StackRuns$Net" "hops" "[I", Cond.fieldLink RX2 22 "StackRuns$Net" "cost" "[J", Cond.fieldLink RX2 26 "StackRuns$Net" "stale" "Z", Cond.fieldLink RX2 30 "StackRuns$Net" "seen" "I", Cond.methodLink RL 12 yX7_init, Cond.instanceMethod yX7_init, Cond.code yX7_init cX7_init 1 none, Cond.methodLink RX7 1 objectInit, Cond.fieldLink RX7 7 "StackRunsModel" "controls" "I", Cond.fieldLink RX7 13 "StackRunsModel" "signs" "I", Cond.fieldLink RX7 16 "StackRunsModel" "ruleP" "[I", Cond.fieldLink RX7 20 "StackRunsModel" "ruleS" "[I", Cond.fieldLink RX7 23 "StackRunsModel" "ruleQ" "[I", Cond.fieldLink RX7 26 "StackRunsModel" "ruleA" "[I", Cond.fieldLink RX7 29 "StackRunsModel" "ruleB" "[I", Cond.fieldLink RX7 32 "StackRunsModel" "stack" "[I", Cond.fieldLink RX7 35 "StackRunsModel" "linkMany" "[I"]
def wsL_law_r5 : List Cond := [Cond.fieldLink RX7 38 "StackRunsModel" "linkFrom" "[I", Cond.fieldLink RX7 41 "StackRunsModel" "linkBy" "[I", Cond.fieldLink RX7 44 "StackRunsModel" "linkTo" "[I", Cond.arrayClass .boolean, Cond.fieldLink RX7 47 "StackRunsModel" "isLast" "[Z", Cond.fieldLink RX7 51 "StackRunsModel" "costs" "[J", Cond.fieldLink RX7 55 "StackRunsModel" "links" "[Z", Cond.fieldLink RX7 58 "StackRunsModel" "isSure" "[Z", Cond.fieldLink RX7 61 "StackRunsModel" "trial" "[J", Cond.fieldLink RX7 64 "StackRunsModel" "rest" "[J", Cond.fieldLink RX7 67 "StackRunsModel" "reach" "[I", Cond.fieldLink RX7 70 "StackRunsModel" "high" "[I", Cond.methodLink RL 13 yX6_machine, Cond.instanceMethod yX6_machine, Cond.selects RX6 yX6_machine yX6_machine, Cond.code yX6_machine cX6_machine 4 (some .int), Cond.methodLink RX6 58 yX4_restart, Cond.instanceMethod yX4_restart, Cond.selects RX4 yX4_restart yX4_restart, Cond.code yX4_restart cX4_restart 3 none, Cond.methodLink RX6 62 yX5_restart, Cond.instanceMethod yX5_restart, Cond.selects RX5 yX5_restart yX5_restart, Cond.code yX5_restart cX5_restart 2 none]
def wsL_law_r6 : List Cond := [Cond.methodLink RL 17 yX7_machine, Cond.instanceMethod yX7_machine, Cond.selects RX7 yX7_machine yX7_machine, Cond.code yX7_machine cX7_machine 4 (some .int), Cond.constantLong RX7 77 (5), Cond.fieldLink RX7 79 "StackRunsModel" "rules" "I", Cond.fieldLink RX7 82 "StackRunsModel" "control" "I", Cond.fieldLink RX7 85 "StackRunsModel" "height" "I", Cond.fieldLink RX7 88 "StackRunsModel" "sets" "I", Cond.methodLink RX7 73 yX7_isIn, Cond.static yX7_isIn, Cond.code yX7_isIn cX7_isIn 6 (some .boolean), Cond.methodLink RL 18 yX6_rule, Cond.instanceMethod yX6_rule, Cond.selects RX6 yX6_rule yX6_rule, Cond.code yX6_rule cX6_rule 7 (some .int), Cond.methodLink RX6 65 yX4_isControl, Cond.instanceMethod yX4_isControl, Cond.selects RX4 yX4_isControl yX4_isControl, Cond.code yX4_isControl cX4_isControl 2 (some .boolean), Cond.methodLink RX6 69 yX4_isSign, Cond.instanceMethod yX4_isSign, Cond.selects RX4 yX4_isSign yX4_isSign, Cond.code yX4_isSign cX4_isSign 2 (some .boolean)]
def wsL_law_r7 : List Cond := [Cond.methodLink RX6 72 yX6_headOf, Cond.static yX6_headOf, Cond.code yX6_headOf cX6_headOf 2 (some .int), Cond.methodLink RX6 76 yX4_add, Cond.instanceMethod yX4_add, Cond.selects RX4 yX4_add yX4_add, Cond.code yX4_add cX4_add 5 (some .int), Cond.methodLink RL 22 yX7_rule, Cond.instanceMethod yX7_rule, Cond.selects RX7 yX7_rule yX7_rule, Cond.code yX7_rule cX7_rule 7 (some .int), Cond.methodLink RX7 91 yX7_isControl, Cond.instanceMethod yX7_isControl, Cond.selects RX7 yX7_isControl yX7_isControl, Cond.code yX7_isControl cX7_isControl 2 (some .boolean), Cond.methodLink RX7 95 yX7_isSign, Cond.instanceMethod yX7_isSign, Cond.selects RX7 yX7_isSign yX7_isSign, Cond.code yX7_isSign cX7_isSign 2 (some .boolean), Cond.methodLink RL 23 yX6_unrule, Cond.instanceMethod yX6_unrule, Cond.selects RX6 yX6_unrule yX6_unrule, Cond.code yX6_unrule cX6_unrule 1 (some .int), Cond.methodLink RX6 80 yX4_dropNewest]
def wsL_law_r8 : List Cond := [Cond.instanceMethod yX4_dropNewest, Cond.selects RX4 yX4_dropNewest yX4_dropNewest, Cond.code yX4_dropNewest cX4_dropNewest 1 (some .int), Cond.methodLink RL 27 yX7_unrule, Cond.instanceMethod yX7_unrule, Cond.selects RX7 yX7_unrule yX7_unrule, Cond.code yX7_unrule cX7_unrule 1 (some .int), Cond.methodLink RL 28 yX6_stand, Cond.instanceMethod yX6_stand, Cond.selects RX6 yX6_stand yX6_stand, Cond.code yX6_stand cX6_stand 3 (some .int), Cond.methodLink RL 32 yX7_stand, Cond.instanceMethod yX7_stand, Cond.selects RX7 yX7_stand yX7_stand, Cond.code yX7_stand cX7_stand 3 (some .int), Cond.methodLink RL 33 yX6_push, Cond.instanceMethod yX6_push, Cond.selects RX6 yX6_push yX6_push, Cond.code yX6_push cX6_push 2 (some .int), Cond.methodLink RX6 87 yX5_cover, Cond.instanceMethod yX5_cover, Cond.selects RX5 yX5_cover yX5_cover, Cond.code yX5_cover cX5_cover 2 none, Cond.methodLink RL 36 yX7_push]
def wsL_law_r9 : List Cond := [Cond.instanceMethod yX7_push, Cond.selects RX7 yX7_push yX7_push, Cond.code yX7_push cX7_push 2 (some .int), Cond.methodLink RL 37 yX6_at, Cond.instanceMethod yX6_at, Cond.selects RX6 yX6_at yX6_at, Cond.code yX6_at cX6_at 2 (some .int), Cond.methodLink RL 40 yX7_at, Cond.instanceMethod yX7_at, Cond.selects RX7 yX7_at yX7_at, Cond.code yX7_at cX7_at 2 (some .int), Cond.methodLink RL 41 yX6_go, Cond.instanceMethod yX6_go, Cond.selects RX6 yX6_go yX6_go, Cond.code yX6_go cX6_go 2 (some .int), Cond.methodLink RX6 100 yX5_head, Cond.instanceMethod yX5_head, Cond.selects RX5 yX5_head yX5_head, Cond.code yX5_head cX5_head 1 (some .int), Cond.methodLink RX6 102 yX5_hasRoom, Cond.instanceMethod yX5_hasRoom, Cond.selects RX5 yX5_hasRoom yX5_hasRoom, Cond.code yX5_hasRoom cX5_hasRoom 3 (some .boolean), Cond.methodLink RX6 106 yX5_change]
def wsL_law_r10 : List Cond := [Cond.instanceMethod yX5_change, Cond.selects RX5 yX5_change yX5_change, Cond.code yX5_change cX5_change 3 none, Cond.methodLink RX5 31 yX5_cover, Cond.methodLink RL 44 yX7_go, Cond.instanceMethod yX7_go, Cond.selects RX7 yX7_go yX7_go, Cond.code yX7_go cX7_go 2 (some .int), Cond.methodLink RX7 102 yX7_goes, Cond.instanceMethod yX7_goes, Cond.selects RX7 yX7_goes yX7_goes, Cond.code yX7_goes cX7_goes 2 (some .boolean), Cond.methodLink RX7 98 yX7_puts, Cond.instanceMethod yX7_puts, Cond.selects RX7 yX7_puts yX7_puts, Cond.code yX7_puts cX7_puts 2 (some .int), Cond.methodLink RX7 105 yX7_does, Cond.instanceMethod yX7_does, Cond.selects RX7 yX7_does yX7_does, Cond.code yX7_does cX7_does 2 none, Cond.methodLink RL 45 yX6_set, Cond.instanceMethod yX6_set, Cond.selects RX6 yX6_set yX6_set, Cond.code yX6_set cX6_set 1 (some .int)]
def wsL_law_r11 : List Cond := [Cond.methodLink RX6 110 yX2_restart, Cond.instanceMethod yX2_restart, Cond.selects RX2 yX2_restart yX2_restart, Cond.code yX2_restart cX2_restart 1 none, Cond.methodLink RX2 33 yJ7_fill_53178, Cond.static yJ7_fill_53178, Cond.initialized RJ7, Cond.code yJ7_fill_53178 cJ7_fill_53178 4 none, Cond.methodLink RL 48 yX7_set, Cond.instanceMethod yX7_set, Cond.selects RX7 yX7_set yX7_set, Cond.code yX7_set cX7_set 2 (some .int), Cond.methodLink RL 49 yX6_link, Cond.instanceMethod yX6_link, Cond.selects RX6 yX6_link yX6_link, Cond.code yX6_link cX6_link 6 (some .int), Cond.methodLink RX6 112 yX6_isSet, Cond.instanceMethod yX6_isSet, Cond.selects RX6 yX6_isSet yX6_isSet, Cond.code yX6_isSet cX6_isSet 2 (some .boolean), Cond.methodLink RX6 115 yX6_isPlace, Cond.instanceMethod yX6_isPlace, Cond.selects RX6 yX6_isPlace yX6_isPlace, Cond.code yX6_isPlace cX6_isPlace 3 (some .boolean)]
def wsL_law_r12 : List Cond := [Cond.methodLink RX6 122 yX6_placeOf, Cond.static yX6_placeOf, Cond.code yX6_placeOf cX6_placeOf 2 (some .int), Cond.methodLink RX6 125 yX2_join, Cond.instanceMethod yX2_join, Cond.selects RX2 yX2_join yX2_join, Cond.code yX2_join cX2_join 4 (some .int), Cond.methodLink RL 52 yX7_link, Cond.instanceMethod yX7_link, Cond.selects RX7 yX7_link yX7_link, Cond.code yX7_link cX7_link 7 (some .int), Cond.methodLink RX7 109 yX7_isSet, Cond.instanceMethod yX7_isSet, Cond.selects RX7 yX7_isSet yX7_isSet, Cond.code yX7_isSet cX7_isSet 2 (some .boolean), Cond.methodLink RX7 112 yX7_isPlace, Cond.instanceMethod yX7_isPlace, Cond.selects RX7 yX7_isPlace yX7_isPlace, Cond.code yX7_isPlace cX7_isPlace 3 (some .boolean), Cond.methodLink RL 53 yX6_last, Cond.instanceMethod yX6_last, Cond.selects RX6 yX6_last yX6_last, Cond.code yX6_last cX6_last 5 (some .int), Cond.methodLink RX6 129 yX2_mark]
def wsL_law_r13 : List Cond := [Cond.instanceMethod yX2_mark, Cond.selects RX2 yX2_mark yX2_mark, Cond.code yX2_mark cX2_mark 4 (some .boolean), Cond.methodLink RX2 39 yX2_isLast, Cond.instanceMethod yX2_isLast, Cond.selects RX2 yX2_isLast yX2_isLast, Cond.code yX2_isLast cX2_isLast 2 (some .boolean), Cond.static yX6_hasBit, Cond.code yX6_hasBit cX6_hasBit 2 (some .boolean), Cond.methodLink RL 57 yX7_last, Cond.instanceMethod yX7_last, Cond.selects RX7 yX7_last yX7_last, Cond.code yX7_last cX7_last 7 (some .int), Cond.methodLink RL 58 yX6_unset, Cond.instanceMethod yX6_unset, Cond.selects RX6 yX6_unset yX6_unset, Cond.code yX6_unset cX6_unset 1 (some .int), Cond.methodLink RL 61 yX7_unset, Cond.instanceMethod yX7_unset, Cond.selects RX7 yX7_unset yX7_unset, Cond.code yX7_unset cX7_unset 1 (some .int), Cond.methodLink RL 62 yX6_in, Cond.instanceMethod yX6_in, Cond.selects RX6 yX6_in yX6_in]
def wsL_law_r14 : List Cond := [Cond.code yX6_in cX6_in 2 (some .int), Cond.methodLink RX6 133 yX2_holds, Cond.instanceMethod yX2_holds, Cond.selects RX2 yX2_holds yX2_holds, Cond.code yX2_holds cX2_holds 4 (some .boolean), Cond.methodLink RX2 58 yX2_allHops, Cond.instanceMethod yX2_allHops, Cond.selects RX2 yX2_allHops yX2_allHops, Cond.code yX2_allHops cX2_allHops 5 (some .int), Cond.methodLink RL 65 yX7_in, Cond.instanceMethod yX7_in, Cond.selects RX7 yX7_in yX7_in, Cond.code yX7_in cX7_in 2 (some .int), Cond.methodLink RX7 120 yX7_holds, Cond.instanceMethod yX7_holds, Cond.selects RX7 yX7_holds yX7_holds, Cond.code yX7_holds cX7_holds 7 (some .boolean), Cond.methodLink RX7 116 yX7_isLinked, Cond.instanceMethod yX7_isLinked, Cond.selects RX7 yX7_isLinked yX7_isLinked, Cond.code yX7_isLinked cX7_isLinked 7 (some .boolean), Cond.methodLink RL 66 yX6_far, Cond.instanceMethod yX6_far, Cond.selects RX6 yX6_far yX6_far]
def wsL_law_r15 : List Cond := [Cond.code yX6_far cX6_far 2 (some .long), Cond.constantLong RX6 137 (-2), Cond.methodLink RX6 139 yX6_distance, Cond.instanceMethod yX6_distance, Cond.selects RX6 yX6_distance yX6_distance, Cond.code yX6_distance cX6_distance 3 (some .long), Cond.methodLink RX6 157 yX3_renew, Cond.instanceMethod yX3_renew, Cond.selects RX3 yX3_renew yX3_renew, Cond.code yX3_renew cX3_renew 5 none, Cond.constantLong RX3 24 (9000000000000000000), Cond.methodLink RX3 26 yJ7_fill_d0a16, Cond.static yJ7_fill_d0a16, Cond.code yJ7_fill_d0a16 cJ7_fill_d0a16 5 none, Cond.methodLink RX3 35 yX3_lowerBy, Cond.instanceMethod yX3_lowerBy, Cond.selects RX3 yX3_lowerBy yX3_lowerBy, Cond.code yX3_lowerBy cX3_lowerBy 10 (some .boolean), Cond.methodLink RX3 49 yX3_lower, Cond.instanceMethod yX3_lower, Cond.selects RX3 yX3_lower yX3_lower, Cond.code yX3_lower cX3_lower 4 (some .boolean), Cond.static yX6_sum, Cond.code yX6_sum cX6_sum 4 (some .long)]
def wsL_law_r16 : List Cond := [Cond.constantLong RX6 185 (9000000000000000000), Cond.constantLong RX6 147 (1000000000000000), Cond.methodLink RX6 189 Lib.MathLoose.min_long.x, Cond.static Lib.MathLoose.min_long.x, Cond.initialized "java/lang/Math", Cond.code Lib.MathLoose.min_long.x Lib.MathLoose.min_long.code 4 (some .long), Cond.methodLink RX3 67 yX3_lowerRow, Cond.instanceMethod yX3_lowerRow, Cond.selects RX3 yX3_lowerRow yX3_lowerRow, Cond.code yX3_lowerRow cX3_lowerRow 8 (some .boolean), Cond.methodLink RX6 195 yX2_renew, Cond.instanceMethod yX2_renew, Cond.selects RX2 yX2_renew yX2_renew, Cond.code yX2_renew cX2_renew 6 none, Cond.methodLink RX2 67 yX2_startFrom, Cond.instanceMethod yX2_startFrom, Cond.selects RX2 yX2_startFrom yX2_startFrom, Cond.code yX2_startFrom cX2_startFrom 5 none, Cond.constantLong RX2 87 (9000000000000000000), Cond.methodLink RX2 83 yX2_hasHop, Cond.instanceMethod yX2_hasHop, Cond.selects RX2 yX2_hasHop yX2_hasHop, Cond.code yX2_hasHop cX2_hasHop 4 (some .boolean), Cond.methodLink RX2 74 yX2_lowerBy]
def wsL_law_r17 : List Cond := [Cond.instanceMethod yX2_lowerBy, Cond.selects RX2 yX2_lowerBy yX2_lowerBy, Cond.code yX2_lowerBy cX2_lowerBy 9 (some .boolean), Cond.methodLink RX2 108 yX2_lower, Cond.instanceMethod yX2_lower, Cond.selects RX2 yX2_lower yX2_lower, Cond.code yX2_lower cX2_lower 5 (some .boolean), Cond.methodLink RX2 112 yX2_lowerRow, Cond.instanceMethod yX2_lowerRow, Cond.selects RX2 yX2_lowerRow yX2_lowerRow, Cond.code yX2_lowerRow cX2_lowerRow 8 (some .boolean), Cond.methodLink RX2 116 yX2_through, Cond.instanceMethod yX2_through, Cond.selects RX2 yX2_through yX2_through, Cond.code yX2_through cX2_through 4 (some .long), Cond.methodLink RX6 196 yX1_start, Cond.instanceMethod yX1_start, Cond.selects RX1 yX1_start yX1_start, Cond.code yX1_start cX1_start 3 none, Cond.constantLong RX1 21 (9000000000000000000), Cond.methodLink RX1 15 yX2_isLast, Cond.methodLink RX6 153 yX1_build, Cond.instanceMethod yX1_build, Cond.selects RX1 yX1_build yX1_build]
def wsL_law_r18 : List Cond := [Cond.code yX1_build cX1_build 6 none, Cond.methodLink RX1 33 yX1_across, Cond.instanceMethod yX1_across, Cond.selects RX1 yX1_across yX1_across, Cond.code yX1_across cX1_across 10 (some .long), Cond.methodLink RX1 45 Lib.MathLoose.min_long.x, Cond.methodLink RX1 37 yX2_through, Cond.methodLink RX6 143 yX6_told, Cond.static yX6_told, Cond.code yX6_told cX6_told 2 (some .long), Cond.constantLong RX6 187 (-1), Cond.methodLink RL 70 yX7_far, Cond.instanceMethod yX7_far, Cond.selects RX7 yX7_far yX7_far, Cond.code yX7_far cX7_far 2 (some .long), Cond.constantLong RX7 156 (-2), Cond.methodLink RX7 158 yX7_findCosts, Cond.instanceMethod yX7_findCosts, Cond.selects RX7 yX7_findCosts yX7_findCosts, Cond.code yX7_findCosts cX7_findCosts 5 none, Cond.fieldLink RX7 142 "StackRunsModel" "netOf" "I", Cond.constantLong RX7 123 (-1), Cond.methodLink RX7 127 yX7_costAt, Cond.static yX7_costAt]
def wsL_law_r19 : List Cond := [Cond.code yX7_costAt cX7_costAt 3 (some .int), Cond.methodLink RX7 145 yX7_settle, Cond.instanceMethod yX7_settle, Cond.selects RX7 yX7_settle yX7_settle, Cond.code yX7_settle cX7_settle 6 (some .boolean), Cond.methodLink RX7 149 yX7_byRule, Cond.instanceMethod yX7_byRule, Cond.selects RX7 yX7_byRule yX7_byRule, Cond.code yX7_byRule cX7_byRule 7 (some .long), Cond.methodLink RX7 131 yX7_reading, Cond.instanceMethod yX7_reading, Cond.selects RX7 yX7_reading yX7_reading, Cond.code yX7_reading cX7_reading 4 (some .long), Cond.methodLink RX7 135 yX7_plus, Cond.static yX7_plus, Cond.code yX7_plus cX7_plus 4 (some .long), Cond.constantLong RX7 125 (1000000000000000), Cond.methodLink RX7 139 yX7_lesser, Cond.static yX7_lesser, Cond.code yX7_lesser cX7_lesser 4 (some .long), Cond.methodLink RX7 161 yX7_farNow, Cond.instanceMethod yX7_farNow, Cond.selects RX7 yX7_farNow yX7_farNow, Cond.code yX7_farNow cX7_farNow 1 (some .long)]
def wsL_law_r20 : List Cond := [Cond.methodLink RX7 153 yX7_readStack, Cond.instanceMethod yX7_readStack, Cond.selects RX7 yX7_readStack yX7_readStack, Cond.code yX7_readStack cX7_readStack 6 none, Cond.methodLink RL 71 yX6_step, Cond.instanceMethod yX6_step, Cond.selects RX6 yX6_step yX6_step, Cond.code yX6_step cX6_step 5 (some .int), Cond.methodLink RX6 149 yX6_nearing, Cond.instanceMethod yX6_nearing, Cond.selects RX6 yX6_nearing yX6_nearing, Cond.code yX6_nearing cX6_nearing 6 (some .int), Cond.methodLink RX6 203 yX1_after, Cond.instanceMethod yX1_after, Cond.selects RX1 yX1_after yX1_after, Cond.code yX1_after cX1_after 11 (some .long), Cond.methodLink RL 74 yX7_step, Cond.instanceMethod yX7_step, Cond.selects RX7 yX7_step yX7_step, Cond.code yX7_step cX7_step 5 (some .int), Cond.methodLink RX7 165 yX7_nextRule, Cond.instanceMethod yX7_nextRule, Cond.selects RX7 yX7_nextRule yX7_nextRule, Cond.code yX7_nextRule cX7_nextRule 7 (some .int)]
def wsL_law_r21 : List Cond := [Cond.methodLink RL 75 yX6_run, Cond.instanceMethod yX6_run, Cond.selects RX6 yX6_run yX6_run, Cond.code yX6_run cX6_run 8 (some .int), Cond.methodLink RL 78 yX7_run, Cond.instanceMethod yX7_run, Cond.selects RX7 yX7_run yX7_run, Cond.code yX7_run cX7_run 7 (some .int), Cond.constantLong RX7 169 (2000), Cond.methodLink RL 79 yX6_pop, Cond.instanceMethod yX6_pop, Cond.selects RX6 yX6_pop yX6_pop, Cond.code yX6_pop cX6_pop 4 (some .long), Cond.methodLink RL 83 yX7_pop, Cond.instanceMethod yX7_pop, Cond.selects RX7 yX7_pop yX7_pop, Cond.code yX7_pop cX7_pop 4 (some .long), Cond.methodLink RL 84 yX6_endless, Cond.instanceMethod yX6_endless, Cond.selects RX6 yX6_endless yX6_endless, Cond.code yX6_endless cX6_endless 1 (some .int), Cond.methodLink RX6 165 yX0_renew, Cond.instanceMethod yX0_renew, Cond.selects RX0 yX0_renew yX0_renew]
def wsL_law_r22 : List Cond := [Cond.code yX0_renew cX0_renew 3 none, Cond.methodLink RX0 36 yX0_findExits, Cond.instanceMethod yX0_findExits, Cond.selects RX0 yX0_findExits yX0_findExits, Cond.code yX0_findExits cX0_findExits 4 none, Cond.constantLong RX0 56 (9000000000000000000), Cond.methodLink RX0 40 yX0_findAhead, Cond.instanceMethod yX0_findAhead, Cond.selects RX0 yX0_findAhead yX0_findAhead, Cond.code yX0_findAhead cX0_findAhead 4 none, Cond.methodLink RX0 58 yJ7_fill_53178, Cond.methodLink RX0 80 yX0_uncovered, Cond.instanceMethod yX0_uncovered, Cond.selects RX0 yX0_uncovered yX0_uncovered, Cond.code yX0_uncovered cX0_uncovered 6 (some .int), Cond.methodLink RX0 44 yX0_findCircles, Cond.instanceMethod yX0_findCircles, Cond.selects RX0 yX0_findCircles yX0_findCircles, Cond.code yX0_findCircles cX0_findCircles 6 none, Cond.methodLink RX0 91 yX0_leadingTo, Cond.instanceMethod yX0_leadingTo, Cond.selects RX0 yX0_leadingTo yX0_leadingTo, Cond.code yX0_leadingTo cX0_leadingTo 4 (some .int), Cond.methodLink RX0 47 yX0_findTallest]
def wsL_law_r23 : List Cond := [Cond.instanceMethod yX0_findTallest, Cond.selects RX0 yX0_findTallest yX0_findTallest, Cond.code yX0_findTallest cX0_findTallest 6 none, Cond.methodLink RX0 95 yX0_raiseBy, Cond.instanceMethod yX0_raiseBy, Cond.selects RX0 yX0_raiseBy yX0_raiseBy, Cond.code yX0_raiseBy cX0_raiseBy 7 (some .boolean), Cond.methodLink RX0 99 Lib.Math.max.name, Cond.static Lib.Math.max.name, Cond.code Lib.Math.max.name Lib.Math.max.code 2 (some .int), Cond.methodLink RX6 168 yX0_goOnFrom, Cond.instanceMethod yX0_goOnFrom, Cond.selects RX0 yX0_goOnFrom yX0_goOnFrom, Cond.code yX0_goOnFrom cX0_goOnFrom 4 (some .boolean), Cond.methodLink RX0 115 yX0_headsOf, Cond.instanceMethod yX0_headsOf, Cond.selects RX0 yX0_headsOf yX0_headsOf, Cond.code yX0_headsOf cX0_headsOf 5 (some .int), Cond.methodLink RX0 118 yX0_allExits, Cond.instanceMethod yX0_allExits, Cond.selects RX0 yX0_allExits yX0_allExits, Cond.code yX0_allExits cX0_allExits 5 (some .int), Cond.methodLink RL 87 yX7_endless, Cond.instanceMethod yX7_endless]
def wsL_law_r24 : List Cond := [Cond.selects RX7 yX7_endless yX7_endless, Cond.code yX7_endless cX7_endless 5 (some .int), Cond.methodLink RX7 174 yX7_findReach, Cond.instanceMethod yX7_findReach, Cond.selects RX7 yX7_findReach yX7_findReach, Cond.code yX7_findReach cX7_findReach 6 none, Cond.methodLink RX7 171 yX7_headsBy, Cond.instanceMethod yX7_headsBy, Cond.selects RX7 yX7_headsBy yX7_headsBy, Cond.code yX7_headsBy cX7_headsBy 4 (some .int), Cond.methodLink RX7 177 yX7_isForEver, Cond.instanceMethod yX7_isForEver, Cond.selects RX7 yX7_isForEver yX7_isForEver, Cond.code yX7_isForEver cX7_isForEver 4 (some .boolean), Cond.methodLink RX7 180 yX7_popped, Cond.instanceMethod yX7_popped, Cond.selects RX7 yX7_popped yX7_popped, Cond.code yX7_popped cX7_popped 6 (some .int), Cond.methodLink RL 88 yX6_high, Cond.instanceMethod yX6_high, Cond.selects RX6 yX6_high yX6_high, Cond.code yX6_high cX6_high 1 (some .int), Cond.methodLink RX6 171 yX0_topFrom, Cond.instanceMethod yX0_topFrom]
def wsL_law_r25 : List Cond := [Cond.selects RX0 yX0_topFrom yX0_topFrom, Cond.code yX0_topFrom cX0_topFrom 7 (some .int), Cond.methodLink RL 91 yX7_high, Cond.instanceMethod yX7_high, Cond.selects RX7 yX7_high yX7_high, Cond.code yX7_high cX7_high 6 (some .int), Cond.methodLink RX7 184 yX7_findHigh, Cond.instanceMethod yX7_findHigh, Cond.selects RX7 yX7_findHigh yX7_findHigh, Cond.code yX7_findHigh cX7_findHigh 9 none, Cond.methodLink RL 92 yX6_count, Cond.instanceMethod yX6_count, Cond.selects RX6 yX6_count yX6_count, Cond.code yX6_count cX6_count 2 (some .int), Cond.methodLink RX6 181 yX4_matching, Cond.instanceMethod yX4_matching, Cond.selects RX4 yX4_matching yX4_matching, Cond.code yX4_matching cX4_matching 4 (some .int), Cond.methodLink RL 95 yX7_count, Cond.instanceMethod yX7_count, Cond.selects RX7 yX7_count yX7_count, Cond.code yX7_count cX7_count 4 (some .int)]
def wsL_law : List Cond := (wsL_law_r1 ++ (wsL_law_r2 ++ (wsL_law_r3 ++ (wsL_law_r4 ++ (wsL_law_r5 ++ (wsL_law_r6 ++ (wsL_law_r7 ++ (wsL_law_r8 ++ (wsL_law_r9 ++ (wsL_law_r10 ++ (wsL_law_r11 ++ (wsL_law_r12 ++ (wsL_law_r13 ++ (wsL_law_r14 ++ (wsL_law_r15 ++ (wsL_law_r16 ++ (wsL_law_r17 ++ (wsL_law_r18 ++ (wsL_law_r19 ++ (wsL_law_r20 ++ (wsL_law_r21 ++ (wsL_law_r22 ++ (wsL_law_r23 ++ (wsL_law_r24 ++ wsL_law_r25)))))))))))))))))))))))) ++ wsX60 ++ wsX70 ++ wsX40 ++ wsX50 ++ wsX30 ++ wsX00 ++ wsX10 ++ wsX20 ++ ([] : List Cond)
abbrev vwCl : List vw_C := [(RX0, TX0, 6), (RX1, TX1, 1), (RX2, TX2, 6), (RX3, TX3, 2), (RX4, TX4, 8), (RX5, TX5, 3), (RX6, TX6, 7), (RX7, TX7, 25)]
theorem sub_p {big : List Cond} (ws : List Cond) (ps : List Nat) (hp : ws = ps.filterMap (fun i => big[i]?)) : ∀ w ∈ ws, w ∈ big := by
  intro w hw
  rw [hp] at hw
  obtain ⟨i, -, hi⟩ := List.mem_filterMap.mp hw
  exact List.mem_of_getElem? hi
end
section
theorem dJ7_fill_d0a16_0 : decode cJ7_fill_d0a16 0 = .ok (.iconst 0, 1) := by decide +kernel
theorem dJ7_fill_d0a16_1 : decode cJ7_fill_d0a16 1 = .ok (.istore_n 3, 1) := by decide +kernel
theorem dJ7_fill_d0a16_2 : decode cJ7_fill_d0a16 2 = .ok (.aload_n 0, 1) := by decide +kernel
theorem dJ7_fill_d0a16_3 : decode cJ7_fill_d0a16 3 = .ok (.arraylength, 1) := by decide +kernel
theorem dJ7_fill_d0a16_4 : decode cJ7_fill_d0a16 4 = .ok (.istore 4, 2) := by decide +kernel
theorem dJ7_fill_d0a16_6 : decode cJ7_fill_d0a16 6 = .ok (.iload_n 3, 1) := by decide +kernel
theorem dJ7_fill_d0a16_7 : decode cJ7_fill_d0a16 7 = .ok (.iload 4, 2) := by decide +kernel
theorem dJ7_fill_d0a16_9 : decode cJ7_fill_d0a16 9 = .ok (.if_icmp .ge 13, 3) := by decide +kernel
theorem dJ7_fill_d0a16_12 : decode cJ7_fill_d0a16 12 = .ok (.aload_n 0, 1) := by decide +kernel
theorem dJ7_fill_d0a16_13 : decode cJ7_fill_d0a16 13 = .ok (.iload_n 3, 1) := by decide +kernel
theorem dJ7_fill_d0a16_14 : decode cJ7_fill_d0a16 14 = .ok (.lload_n 1, 1) := by decide +kernel
theorem dJ7_fill_d0a16_15 : decode cJ7_fill_d0a16 15 = .ok (.lastore, 1) := by decide +kernel
theorem dJ7_fill_d0a16_16 : decode cJ7_fill_d0a16 16 = .ok (.iinc 3 1, 3) := by decide +kernel
theorem dJ7_fill_d0a16_19 : decode cJ7_fill_d0a16 19 = .ok (.goto (-13), 3) := by decide +kernel
theorem dJ7_fill_d0a16_22 : decode cJ7_fill_d0a16 22 = .ok (.return_, 1) := by decide +kernel
theorem dJ7_fill_53178_0 : decode cJ7_fill_53178 0 = .ok (.iconst 0, 1) := by decide +kernel
theorem dJ7_fill_53178_1 : decode cJ7_fill_53178 1 = .ok (.istore_n 2, 1) := by decide +kernel
theorem dJ7_fill_53178_2 : decode cJ7_fill_53178 2 = .ok (.aload_n 0, 1) := by decide +kernel
theorem dJ7_fill_53178_3 : decode cJ7_fill_53178 3 = .ok (.arraylength, 1) := by decide +kernel
theorem dJ7_fill_53178_4 : decode cJ7_fill_53178 4 = .ok (.istore_n 3, 1) := by decide +kernel
theorem dJ7_fill_53178_5 : decode cJ7_fill_53178 5 = .ok (.iload_n 2, 1) := by decide +kernel
theorem dJ7_fill_53178_6 : decode cJ7_fill_53178 6 = .ok (.iload_n 3, 1) := by decide +kernel
theorem dJ7_fill_53178_7 : decode cJ7_fill_53178 7 = .ok (.if_icmp .ge 13, 3) := by decide +kernel
theorem dJ7_fill_53178_10 : decode cJ7_fill_53178 10 = .ok (.aload_n 0, 1) := by decide +kernel
theorem dJ7_fill_53178_11 : decode cJ7_fill_53178 11 = .ok (.iload_n 2, 1) := by decide +kernel
theorem dJ7_fill_53178_12 : decode cJ7_fill_53178 12 = .ok (.iload_n 1, 1) := by decide +kernel
theorem dJ7_fill_53178_13 : decode cJ7_fill_53178 13 = .ok (.iastore, 1) := by decide +kernel
theorem dJ7_fill_53178_14 : decode cJ7_fill_53178 14 = .ok (.iinc 2 1, 3) := by decide +kernel
theorem dJ7_fill_53178_17 : decode cJ7_fill_53178 17 = .ok (.goto (-12), 3) := by decide +kernel
theorem dJ7_fill_53178_20 : decode cJ7_fill_53178 20 = .ok (.return_, 1) := by decide +kernel
end
section
theorem dJ9_max_7cf53_0 : decode cJ9_max_7cf53 0 = .ok (.iload_n 0, 1) := by decide +kernel
theorem dJ9_max_7cf53_1 : decode cJ9_max_7cf53 1 = .ok (.iload_n 1, 1) := by decide +kernel
theorem dJ9_max_7cf53_2 : decode cJ9_max_7cf53 2 = .ok (.if_icmp .lt 7, 3) := by decide +kernel
theorem dJ9_max_7cf53_5 : decode cJ9_max_7cf53 5 = .ok (.iload_n 0, 1) := by decide +kernel
theorem dJ9_max_7cf53_6 : decode cJ9_max_7cf53 6 = .ok (.goto 4, 3) := by decide +kernel
theorem dJ9_max_7cf53_9 : decode cJ9_max_7cf53 9 = .ok (.iload_n 1, 1) := by decide +kernel
theorem dJ9_max_7cf53_10 : decode cJ9_max_7cf53 10 = .ok (.ireturn, 1) := by decide +kernel
theorem dJ9_min_f86c9_0 : decode cJ9_min_f86c9 0 = .ok (.lload_n 0, 1) := by decide +kernel
theorem dJ9_min_f86c9_1 : decode cJ9_min_f86c9 1 = .ok (.lload_n 2, 1) := by decide +kernel
theorem dJ9_min_f86c9_2 : decode cJ9_min_f86c9 2 = .ok (.lcmp, 1) := by decide +kernel
theorem dJ9_min_f86c9_3 : decode cJ9_min_f86c9 3 = .ok (.ifCond .gt 7, 3) := by decide +kernel
theorem dJ9_min_f86c9_6 : decode cJ9_min_f86c9 6 = .ok (.lload_n 0, 1) := by decide +kernel
theorem dJ9_min_f86c9_7 : decode cJ9_min_f86c9 7 = .ok (.goto 4, 3) := by decide +kernel
theorem dJ9_min_f86c9_10 : decode cJ9_min_f86c9 10 = .ok (.lload_n 2, 1) := by decide +kernel
theorem dJ9_min_f86c9_11 : decode cJ9_min_f86c9 11 = .ok (.lreturn, 1) := by decide +kernel
end
section
theorem dL_law_0 : decode cL_law 0 = .ok (.new 7, 3) := by decide +kernel
theorem dL_law_3 : decode cL_law 3 = .ok (.dup, 1) := by decide +kernel
theorem dL_law_4 : decode cL_law 4 = .ok (.invokespecial 9, 3) := by decide +kernel
theorem dL_law_7 : decode cL_law 7 = .ok (.astore_n 1, 1) := by decide +kernel
theorem dL_law_8 : decode cL_law 8 = .ok (.new 10, 3) := by decide +kernel
theorem dL_law_11 : decode cL_law 11 = .ok (.dup, 1) := by decide +kernel
theorem dL_law_12 : decode cL_law 12 = .ok (.invokespecial 12, 3) := by decide +kernel
theorem dL_law_15 : decode cL_law 15 = .ok (.astore_n 2, 1) := by decide +kernel
theorem dL_law_16 : decode cL_law 16 = .ok (.iconst 0, 1) := by decide +kernel
theorem dL_law_17 : decode cL_law 17 = .ok (.istore_n 3, 1) := by decide +kernel
theorem dL_law_18 : decode cL_law 18 = .ok (.iload_n 3, 1) := by decide +kernel
theorem dL_law_19 : decode cL_law 19 = .ok (.aload_n 0, 1) := by decide +kernel
theorem dL_law_20 : decode cL_law 20 = .ok (.arraylength, 1) := by decide +kernel
theorem dL_law_21 : decode cL_law 21 = .ok (.bipush 6, 2) := by decide +kernel
theorem dL_law_23 : decode cL_law 23 = .ok (.isub, 1) := by decide +kernel
theorem dL_law_24 : decode cL_law 24 = .ok (.if_icmp .gt 661, 3) := by decide +kernel
theorem dL_law_27 : decode cL_law 27 = .ok (.aload_n 0, 1) := by decide +kernel
theorem dL_law_28 : decode cL_law 28 = .ok (.iload_n 3, 1) := by decide +kernel
theorem dL_law_29 : decode cL_law 29 = .ok (.iaload, 1) := by decide +kernel
theorem dL_law_30 : decode cL_law 30 = .ok (.bipush 31, 2) := by decide +kernel
theorem dL_law_32 : decode cL_law 32 = .ok (.iand, 1) := by decide +kernel
theorem dL_law_33 : decode cL_law 33 = .ok (.tableswitch 646 0 18 #[91, 124, 187, 200, 223, 246, 269, 292, 305, 368, 437, 450, 473, 497, 520, 553, 597, 610, 623], 91) := by decide +kernel
theorem dL_law_124 : decode cL_law 124 = .ok (.aload_n 1, 1) := by decide +kernel
theorem dL_law_125 : decode cL_law 125 = .ok (.aload_n 0, 1) := by decide +kernel
theorem dL_law_126 : decode cL_law 126 = .ok (.iload_n 3, 1) := by decide +kernel
theorem dL_law_127 : decode cL_law 127 = .ok (.iconst 1, 1) := by decide +kernel
theorem dL_law_128 : decode cL_law 128 = .ok (.iadd, 1) := by decide +kernel
theorem dL_law_129 : decode cL_law 129 = .ok (.iaload, 1) := by decide +kernel
theorem dL_law_130 : decode cL_law 130 = .ok (.aload_n 0, 1) := by decide +kernel
theorem dL_law_131 : decode cL_law 131 = .ok (.iload_n 3, 1) := by decide +kernel
theorem dL_law_132 : decode cL_law 132 = .ok (.iconst 2, 1) := by decide +kernel
theorem dL_law_133 : decode cL_law 133 = .ok (.iadd, 1) := by decide +kernel
theorem dL_law_134 : decode cL_law 134 = .ok (.iaload, 1) := by decide +kernel
theorem dL_law_135 : decode cL_law 135 = .ok (.invokevirtual 13, 3) := by decide +kernel
theorem dL_law_138 : decode cL_law 138 = .ok (.aload_n 2, 1) := by decide +kernel
theorem dL_law_139 : decode cL_law 139 = .ok (.aload_n 0, 1) := by decide +kernel
theorem dL_law_140 : decode cL_law 140 = .ok (.iload_n 3, 1) := by decide +kernel
theorem dL_law_141 : decode cL_law 141 = .ok (.iconst 1, 1) := by decide +kernel
theorem dL_law_142 : decode cL_law 142 = .ok (.iadd, 1) := by decide +kernel
theorem dL_law_143 : decode cL_law 143 = .ok (.iaload, 1) := by decide +kernel
theorem dL_law_144 : decode cL_law 144 = .ok (.aload_n 0, 1) := by decide +kernel
theorem dL_law_145 : decode cL_law 145 = .ok (.iload_n 3, 1) := by decide +kernel
theorem dL_law_146 : decode cL_law 146 = .ok (.iconst 2, 1) := by decide +kernel
theorem dL_law_147 : decode cL_law 147 = .ok (.iadd, 1) := by decide +kernel
theorem dL_law_148 : decode cL_law 148 = .ok (.iaload, 1) := by decide +kernel
theorem dL_law_149 : decode cL_law 149 = .ok (.invokevirtual 17, 3) := by decide +kernel
theorem dL_law_152 : decode cL_law 152 = .ok (.if_icmp .eq 527, 3) := by decide +kernel
theorem dL_law_155 : decode cL_law 155 = .ok (.iconst 0, 1) := by decide +kernel
theorem dL_law_156 : decode cL_law 156 = .ok (.ireturn, 1) := by decide +kernel
theorem dL_law_157 : decode cL_law 157 = .ok (.aload_n 1, 1) := by decide +kernel
theorem dL_law_158 : decode cL_law 158 = .ok (.aload_n 0, 1) := by decide +kernel
theorem dL_law_159 : decode cL_law 159 = .ok (.iload_n 3, 1) := by decide +kernel
theorem dL_law_160 : decode cL_law 160 = .ok (.iconst 1, 1) := by decide +kernel
theorem dL_law_161 : decode cL_law 161 = .ok (.iadd, 1) := by decide +kernel
theorem dL_law_162 : decode cL_law 162 = .ok (.iaload, 1) := by decide +kernel
theorem dL_law_163 : decode cL_law 163 = .ok (.aload_n 0, 1) := by decide +kernel
theorem dL_law_164 : decode cL_law 164 = .ok (.iload_n 3, 1) := by decide +kernel
theorem dL_law_165 : decode cL_law 165 = .ok (.iconst 2, 1) := by decide +kernel
theorem dL_law_166 : decode cL_law 166 = .ok (.iadd, 1) := by decide +kernel
theorem dL_law_167 : decode cL_law 167 = .ok (.iaload, 1) := by decide +kernel
theorem dL_law_168 : decode cL_law 168 = .ok (.aload_n 0, 1) := by decide +kernel
theorem dL_law_169 : decode cL_law 169 = .ok (.iload_n 3, 1) := by decide +kernel
theorem dL_law_170 : decode cL_law 170 = .ok (.iconst 3, 1) := by decide +kernel
theorem dL_law_171 : decode cL_law 171 = .ok (.iadd, 1) := by decide +kernel
theorem dL_law_172 : decode cL_law 172 = .ok (.iaload, 1) := by decide +kernel
theorem dL_law_173 : decode cL_law 173 = .ok (.aload_n 0, 1) := by decide +kernel
theorem dL_law_174 : decode cL_law 174 = .ok (.iload_n 3, 1) := by decide +kernel
theorem dL_law_175 : decode cL_law 175 = .ok (.iconst 4, 1) := by decide +kernel
theorem dL_law_176 : decode cL_law 176 = .ok (.iadd, 1) := by decide +kernel
theorem dL_law_177 : decode cL_law 177 = .ok (.iaload, 1) := by decide +kernel
theorem dL_law_178 : decode cL_law 178 = .ok (.aload_n 0, 1) := by decide +kernel
theorem dL_law_179 : decode cL_law 179 = .ok (.iload_n 3, 1) := by decide +kernel
theorem dL_law_180 : decode cL_law 180 = .ok (.iconst 5, 1) := by decide +kernel
theorem dL_law_181 : decode cL_law 181 = .ok (.iadd, 1) := by decide +kernel
theorem dL_law_182 : decode cL_law 182 = .ok (.iaload, 1) := by decide +kernel
theorem dL_law_183 : decode cL_law 183 = .ok (.invokevirtual 18, 3) := by decide +kernel
theorem dL_law_186 : decode cL_law 186 = .ok (.aload_n 2, 1) := by decide +kernel
theorem dL_law_187 : decode cL_law 187 = .ok (.aload_n 0, 1) := by decide +kernel
theorem dL_law_188 : decode cL_law 188 = .ok (.iload_n 3, 1) := by decide +kernel
theorem dL_law_189 : decode cL_law 189 = .ok (.iconst 1, 1) := by decide +kernel
theorem dL_law_190 : decode cL_law 190 = .ok (.iadd, 1) := by decide +kernel
theorem dL_law_191 : decode cL_law 191 = .ok (.iaload, 1) := by decide +kernel
theorem dL_law_192 : decode cL_law 192 = .ok (.aload_n 0, 1) := by decide +kernel
theorem dL_law_193 : decode cL_law 193 = .ok (.iload_n 3, 1) := by decide +kernel
theorem dL_law_194 : decode cL_law 194 = .ok (.iconst 2, 1) := by decide +kernel
theorem dL_law_195 : decode cL_law 195 = .ok (.iadd, 1) := by decide +kernel
theorem dL_law_196 : decode cL_law 196 = .ok (.iaload, 1) := by decide +kernel
theorem dL_law_197 : decode cL_law 197 = .ok (.aload_n 0, 1) := by decide +kernel
theorem dL_law_198 : decode cL_law 198 = .ok (.iload_n 3, 1) := by decide +kernel
theorem dL_law_199 : decode cL_law 199 = .ok (.iconst 3, 1) := by decide +kernel
theorem dL_law_200 : decode cL_law 200 = .ok (.iadd, 1) := by decide +kernel
theorem dL_law_201 : decode cL_law 201 = .ok (.iaload, 1) := by decide +kernel
theorem dL_law_202 : decode cL_law 202 = .ok (.aload_n 0, 1) := by decide +kernel
theorem dL_law_203 : decode cL_law 203 = .ok (.iload_n 3, 1) := by decide +kernel
theorem dL_law_204 : decode cL_law 204 = .ok (.iconst 4, 1) := by decide +kernel
theorem dL_law_205 : decode cL_law 205 = .ok (.iadd, 1) := by decide +kernel
theorem dL_law_206 : decode cL_law 206 = .ok (.iaload, 1) := by decide +kernel
theorem dL_law_207 : decode cL_law 207 = .ok (.aload_n 0, 1) := by decide +kernel
theorem dL_law_208 : decode cL_law 208 = .ok (.iload_n 3, 1) := by decide +kernel
theorem dL_law_209 : decode cL_law 209 = .ok (.iconst 5, 1) := by decide +kernel
theorem dL_law_210 : decode cL_law 210 = .ok (.iadd, 1) := by decide +kernel
theorem dL_law_211 : decode cL_law 211 = .ok (.iaload, 1) := by decide +kernel
theorem dL_law_212 : decode cL_law 212 = .ok (.invokevirtual 22, 3) := by decide +kernel
theorem dL_law_215 : decode cL_law 215 = .ok (.if_icmp .eq 464, 3) := by decide +kernel
theorem dL_law_218 : decode cL_law 218 = .ok (.iconst 0, 1) := by decide +kernel
theorem dL_law_219 : decode cL_law 219 = .ok (.ireturn, 1) := by decide +kernel
theorem dL_law_220 : decode cL_law 220 = .ok (.aload_n 1, 1) := by decide +kernel
theorem dL_law_221 : decode cL_law 221 = .ok (.invokevirtual 23, 3) := by decide +kernel
theorem dL_law_224 : decode cL_law 224 = .ok (.aload_n 2, 1) := by decide +kernel
theorem dL_law_225 : decode cL_law 225 = .ok (.invokevirtual 27, 3) := by decide +kernel
theorem dL_law_228 : decode cL_law 228 = .ok (.if_icmp .eq 451, 3) := by decide +kernel
theorem dL_law_231 : decode cL_law 231 = .ok (.iconst 0, 1) := by decide +kernel
theorem dL_law_232 : decode cL_law 232 = .ok (.ireturn, 1) := by decide +kernel
theorem dL_law_233 : decode cL_law 233 = .ok (.aload_n 1, 1) := by decide +kernel
theorem dL_law_234 : decode cL_law 234 = .ok (.aload_n 0, 1) := by decide +kernel
theorem dL_law_235 : decode cL_law 235 = .ok (.iload_n 3, 1) := by decide +kernel
theorem dL_law_236 : decode cL_law 236 = .ok (.iconst 1, 1) := by decide +kernel
theorem dL_law_237 : decode cL_law 237 = .ok (.iadd, 1) := by decide +kernel
theorem dL_law_238 : decode cL_law 238 = .ok (.iaload, 1) := by decide +kernel
theorem dL_law_239 : decode cL_law 239 = .ok (.invokevirtual 28, 3) := by decide +kernel
theorem dL_law_242 : decode cL_law 242 = .ok (.aload_n 2, 1) := by decide +kernel
theorem dL_law_243 : decode cL_law 243 = .ok (.aload_n 0, 1) := by decide +kernel
theorem dL_law_244 : decode cL_law 244 = .ok (.iload_n 3, 1) := by decide +kernel
theorem dL_law_245 : decode cL_law 245 = .ok (.iconst 1, 1) := by decide +kernel
theorem dL_law_246 : decode cL_law 246 = .ok (.iadd, 1) := by decide +kernel
theorem dL_law_247 : decode cL_law 247 = .ok (.iaload, 1) := by decide +kernel
theorem dL_law_248 : decode cL_law 248 = .ok (.invokevirtual 32, 3) := by decide +kernel
theorem dL_law_251 : decode cL_law 251 = .ok (.if_icmp .eq 428, 3) := by decide +kernel
theorem dL_law_254 : decode cL_law 254 = .ok (.iconst 0, 1) := by decide +kernel
theorem dL_law_255 : decode cL_law 255 = .ok (.ireturn, 1) := by decide +kernel
theorem dL_law_256 : decode cL_law 256 = .ok (.aload_n 1, 1) := by decide +kernel
theorem dL_law_257 : decode cL_law 257 = .ok (.aload_n 0, 1) := by decide +kernel
theorem dL_law_258 : decode cL_law 258 = .ok (.iload_n 3, 1) := by decide +kernel
theorem dL_law_259 : decode cL_law 259 = .ok (.iconst 1, 1) := by decide +kernel
theorem dL_law_260 : decode cL_law 260 = .ok (.iadd, 1) := by decide +kernel
theorem dL_law_261 : decode cL_law 261 = .ok (.iaload, 1) := by decide +kernel
theorem dL_law_262 : decode cL_law 262 = .ok (.invokevirtual 33, 3) := by decide +kernel
theorem dL_law_265 : decode cL_law 265 = .ok (.aload_n 2, 1) := by decide +kernel
theorem dL_law_266 : decode cL_law 266 = .ok (.aload_n 0, 1) := by decide +kernel
theorem dL_law_267 : decode cL_law 267 = .ok (.iload_n 3, 1) := by decide +kernel
theorem dL_law_268 : decode cL_law 268 = .ok (.iconst 1, 1) := by decide +kernel
theorem dL_law_269 : decode cL_law 269 = .ok (.iadd, 1) := by decide +kernel
theorem dL_law_270 : decode cL_law 270 = .ok (.iaload, 1) := by decide +kernel
theorem dL_law_271 : decode cL_law 271 = .ok (.invokevirtual 36, 3) := by decide +kernel
theorem dL_law_274 : decode cL_law 274 = .ok (.if_icmp .eq 405, 3) := by decide +kernel
theorem dL_law_277 : decode cL_law 277 = .ok (.iconst 0, 1) := by decide +kernel
theorem dL_law_278 : decode cL_law 278 = .ok (.ireturn, 1) := by decide +kernel
theorem dL_law_279 : decode cL_law 279 = .ok (.aload_n 1, 1) := by decide +kernel
theorem dL_law_280 : decode cL_law 280 = .ok (.aload_n 0, 1) := by decide +kernel
theorem dL_law_281 : decode cL_law 281 = .ok (.iload_n 3, 1) := by decide +kernel
theorem dL_law_282 : decode cL_law 282 = .ok (.iconst 1, 1) := by decide +kernel
theorem dL_law_283 : decode cL_law 283 = .ok (.iadd, 1) := by decide +kernel
theorem dL_law_284 : decode cL_law 284 = .ok (.iaload, 1) := by decide +kernel
theorem dL_law_285 : decode cL_law 285 = .ok (.invokevirtual 37, 3) := by decide +kernel
theorem dL_law_288 : decode cL_law 288 = .ok (.aload_n 2, 1) := by decide +kernel
theorem dL_law_289 : decode cL_law 289 = .ok (.aload_n 0, 1) := by decide +kernel
theorem dL_law_290 : decode cL_law 290 = .ok (.iload_n 3, 1) := by decide +kernel
theorem dL_law_291 : decode cL_law 291 = .ok (.iconst 1, 1) := by decide +kernel
theorem dL_law_292 : decode cL_law 292 = .ok (.iadd, 1) := by decide +kernel
theorem dL_law_293 : decode cL_law 293 = .ok (.iaload, 1) := by decide +kernel
theorem dL_law_294 : decode cL_law 294 = .ok (.invokevirtual 40, 3) := by decide +kernel
theorem dL_law_297 : decode cL_law 297 = .ok (.if_icmp .eq 382, 3) := by decide +kernel
theorem dL_law_300 : decode cL_law 300 = .ok (.iconst 0, 1) := by decide +kernel
theorem dL_law_301 : decode cL_law 301 = .ok (.ireturn, 1) := by decide +kernel
theorem dL_law_302 : decode cL_law 302 = .ok (.aload_n 1, 1) := by decide +kernel
theorem dL_law_303 : decode cL_law 303 = .ok (.aload_n 0, 1) := by decide +kernel
theorem dL_law_304 : decode cL_law 304 = .ok (.iload_n 3, 1) := by decide +kernel
theorem dL_law_305 : decode cL_law 305 = .ok (.iconst 1, 1) := by decide +kernel
theorem dL_law_306 : decode cL_law 306 = .ok (.iadd, 1) := by decide +kernel
theorem dL_law_307 : decode cL_law 307 = .ok (.iaload, 1) := by decide +kernel
theorem dL_law_308 : decode cL_law 308 = .ok (.invokevirtual 41, 3) := by decide +kernel
theorem dL_law_311 : decode cL_law 311 = .ok (.aload_n 2, 1) := by decide +kernel
theorem dL_law_312 : decode cL_law 312 = .ok (.aload_n 0, 1) := by decide +kernel
theorem dL_law_313 : decode cL_law 313 = .ok (.iload_n 3, 1) := by decide +kernel
theorem dL_law_314 : decode cL_law 314 = .ok (.iconst 1, 1) := by decide +kernel
theorem dL_law_315 : decode cL_law 315 = .ok (.iadd, 1) := by decide +kernel
theorem dL_law_316 : decode cL_law 316 = .ok (.iaload, 1) := by decide +kernel
theorem dL_law_317 : decode cL_law 317 = .ok (.invokevirtual 44, 3) := by decide +kernel
theorem dL_law_320 : decode cL_law 320 = .ok (.if_icmp .eq 359, 3) := by decide +kernel
theorem dL_law_323 : decode cL_law 323 = .ok (.iconst 0, 1) := by decide +kernel
theorem dL_law_324 : decode cL_law 324 = .ok (.ireturn, 1) := by decide +kernel
theorem dL_law_325 : decode cL_law 325 = .ok (.aload_n 1, 1) := by decide +kernel
theorem dL_law_326 : decode cL_law 326 = .ok (.invokevirtual 45, 3) := by decide +kernel
theorem dL_law_329 : decode cL_law 329 = .ok (.aload_n 2, 1) := by decide +kernel
theorem dL_law_330 : decode cL_law 330 = .ok (.invokevirtual 48, 3) := by decide +kernel
theorem dL_law_333 : decode cL_law 333 = .ok (.if_icmp .eq 346, 3) := by decide +kernel
theorem dL_law_336 : decode cL_law 336 = .ok (.iconst 0, 1) := by decide +kernel
theorem dL_law_337 : decode cL_law 337 = .ok (.ireturn, 1) := by decide +kernel
theorem dL_law_338 : decode cL_law 338 = .ok (.aload_n 1, 1) := by decide +kernel
theorem dL_law_339 : decode cL_law 339 = .ok (.aload_n 0, 1) := by decide +kernel
theorem dL_law_340 : decode cL_law 340 = .ok (.iload_n 3, 1) := by decide +kernel
theorem dL_law_341 : decode cL_law 341 = .ok (.iconst 1, 1) := by decide +kernel
theorem dL_law_342 : decode cL_law 342 = .ok (.iadd, 1) := by decide +kernel
theorem dL_law_343 : decode cL_law 343 = .ok (.iaload, 1) := by decide +kernel
theorem dL_law_344 : decode cL_law 344 = .ok (.aload_n 0, 1) := by decide +kernel
theorem dL_law_345 : decode cL_law 345 = .ok (.iload_n 3, 1) := by decide +kernel
theorem dL_law_346 : decode cL_law 346 = .ok (.iconst 2, 1) := by decide +kernel
theorem dL_law_347 : decode cL_law 347 = .ok (.iadd, 1) := by decide +kernel
theorem dL_law_348 : decode cL_law 348 = .ok (.iaload, 1) := by decide +kernel
theorem dL_law_349 : decode cL_law 349 = .ok (.aload_n 0, 1) := by decide +kernel
theorem dL_law_350 : decode cL_law 350 = .ok (.iload_n 3, 1) := by decide +kernel
theorem dL_law_351 : decode cL_law 351 = .ok (.iconst 3, 1) := by decide +kernel
theorem dL_law_352 : decode cL_law 352 = .ok (.iadd, 1) := by decide +kernel
theorem dL_law_353 : decode cL_law 353 = .ok (.iaload, 1) := by decide +kernel
theorem dL_law_354 : decode cL_law 354 = .ok (.aload_n 0, 1) := by decide +kernel
theorem dL_law_355 : decode cL_law 355 = .ok (.iload_n 3, 1) := by decide +kernel
theorem dL_law_356 : decode cL_law 356 = .ok (.iconst 4, 1) := by decide +kernel
theorem dL_law_357 : decode cL_law 357 = .ok (.iadd, 1) := by decide +kernel
theorem dL_law_358 : decode cL_law 358 = .ok (.iaload, 1) := by decide +kernel
theorem dL_law_359 : decode cL_law 359 = .ok (.aload_n 0, 1) := by decide +kernel
theorem dL_law_360 : decode cL_law 360 = .ok (.iload_n 3, 1) := by decide +kernel
theorem dL_law_361 : decode cL_law 361 = .ok (.iconst 5, 1) := by decide +kernel
theorem dL_law_362 : decode cL_law 362 = .ok (.iadd, 1) := by decide +kernel
theorem dL_law_363 : decode cL_law 363 = .ok (.iaload, 1) := by decide +kernel
theorem dL_law_364 : decode cL_law 364 = .ok (.invokevirtual 49, 3) := by decide +kernel
theorem dL_law_367 : decode cL_law 367 = .ok (.aload_n 2, 1) := by decide +kernel
theorem dL_law_368 : decode cL_law 368 = .ok (.aload_n 0, 1) := by decide +kernel
theorem dL_law_369 : decode cL_law 369 = .ok (.iload_n 3, 1) := by decide +kernel
theorem dL_law_370 : decode cL_law 370 = .ok (.iconst 1, 1) := by decide +kernel
theorem dL_law_371 : decode cL_law 371 = .ok (.iadd, 1) := by decide +kernel
theorem dL_law_372 : decode cL_law 372 = .ok (.iaload, 1) := by decide +kernel
theorem dL_law_373 : decode cL_law 373 = .ok (.aload_n 0, 1) := by decide +kernel
theorem dL_law_374 : decode cL_law 374 = .ok (.iload_n 3, 1) := by decide +kernel
theorem dL_law_375 : decode cL_law 375 = .ok (.iconst 2, 1) := by decide +kernel
theorem dL_law_376 : decode cL_law 376 = .ok (.iadd, 1) := by decide +kernel
theorem dL_law_377 : decode cL_law 377 = .ok (.iaload, 1) := by decide +kernel
theorem dL_law_378 : decode cL_law 378 = .ok (.aload_n 0, 1) := by decide +kernel
theorem dL_law_379 : decode cL_law 379 = .ok (.iload_n 3, 1) := by decide +kernel
theorem dL_law_380 : decode cL_law 380 = .ok (.iconst 3, 1) := by decide +kernel
theorem dL_law_381 : decode cL_law 381 = .ok (.iadd, 1) := by decide +kernel
theorem dL_law_382 : decode cL_law 382 = .ok (.iaload, 1) := by decide +kernel
theorem dL_law_383 : decode cL_law 383 = .ok (.aload_n 0, 1) := by decide +kernel
theorem dL_law_384 : decode cL_law 384 = .ok (.iload_n 3, 1) := by decide +kernel
theorem dL_law_385 : decode cL_law 385 = .ok (.iconst 4, 1) := by decide +kernel
theorem dL_law_386 : decode cL_law 386 = .ok (.iadd, 1) := by decide +kernel
theorem dL_law_387 : decode cL_law 387 = .ok (.iaload, 1) := by decide +kernel
theorem dL_law_388 : decode cL_law 388 = .ok (.aload_n 0, 1) := by decide +kernel
theorem dL_law_389 : decode cL_law 389 = .ok (.iload_n 3, 1) := by decide +kernel
theorem dL_law_390 : decode cL_law 390 = .ok (.iconst 5, 1) := by decide +kernel
theorem dL_law_391 : decode cL_law 391 = .ok (.iadd, 1) := by decide +kernel
theorem dL_law_392 : decode cL_law 392 = .ok (.iaload, 1) := by decide +kernel
theorem dL_law_393 : decode cL_law 393 = .ok (.invokevirtual 52, 3) := by decide +kernel
theorem dL_law_396 : decode cL_law 396 = .ok (.if_icmp .eq 283, 3) := by decide +kernel
theorem dL_law_399 : decode cL_law 399 = .ok (.iconst 0, 1) := by decide +kernel
theorem dL_law_400 : decode cL_law 400 = .ok (.ireturn, 1) := by decide +kernel
theorem dL_law_401 : decode cL_law 401 = .ok (.aload_n 1, 1) := by decide +kernel
theorem dL_law_402 : decode cL_law 402 = .ok (.aload_n 0, 1) := by decide +kernel
theorem dL_law_403 : decode cL_law 403 = .ok (.iload_n 3, 1) := by decide +kernel
theorem dL_law_404 : decode cL_law 404 = .ok (.iconst 1, 1) := by decide +kernel
theorem dL_law_405 : decode cL_law 405 = .ok (.iadd, 1) := by decide +kernel
theorem dL_law_406 : decode cL_law 406 = .ok (.iaload, 1) := by decide +kernel
theorem dL_law_407 : decode cL_law 407 = .ok (.aload_n 0, 1) := by decide +kernel
theorem dL_law_408 : decode cL_law 408 = .ok (.iload_n 3, 1) := by decide +kernel
theorem dL_law_409 : decode cL_law 409 = .ok (.iconst 2, 1) := by decide +kernel
theorem dL_law_410 : decode cL_law 410 = .ok (.iadd, 1) := by decide +kernel
theorem dL_law_411 : decode cL_law 411 = .ok (.iaload, 1) := by decide +kernel
theorem dL_law_412 : decode cL_law 412 = .ok (.aload_n 0, 1) := by decide +kernel
theorem dL_law_413 : decode cL_law 413 = .ok (.iload_n 3, 1) := by decide +kernel
theorem dL_law_414 : decode cL_law 414 = .ok (.iconst 3, 1) := by decide +kernel
theorem dL_law_415 : decode cL_law 415 = .ok (.iadd, 1) := by decide +kernel
theorem dL_law_416 : decode cL_law 416 = .ok (.iaload, 1) := by decide +kernel
theorem dL_law_417 : decode cL_law 417 = .ok (.aload_n 0, 1) := by decide +kernel
theorem dL_law_418 : decode cL_law 418 = .ok (.iload_n 3, 1) := by decide +kernel
theorem dL_law_419 : decode cL_law 419 = .ok (.iconst 4, 1) := by decide +kernel
theorem dL_law_420 : decode cL_law 420 = .ok (.iadd, 1) := by decide +kernel
theorem dL_law_421 : decode cL_law 421 = .ok (.iaload, 1) := by decide +kernel
theorem dL_law_422 : decode cL_law 422 = .ok (.ifCond .eq 7, 3) := by decide +kernel
theorem dL_law_425 : decode cL_law 425 = .ok (.iconst 1, 1) := by decide +kernel
theorem dL_law_426 : decode cL_law 426 = .ok (.goto 4, 3) := by decide +kernel
theorem dL_law_429 : decode cL_law 429 = .ok (.iconst 0, 1) := by decide +kernel
theorem dL_law_430 : decode cL_law 430 = .ok (.invokevirtual 53, 3) := by decide +kernel
theorem dL_law_433 : decode cL_law 433 = .ok (.aload_n 2, 1) := by decide +kernel
theorem dL_law_434 : decode cL_law 434 = .ok (.aload_n 0, 1) := by decide +kernel
theorem dL_law_435 : decode cL_law 435 = .ok (.iload_n 3, 1) := by decide +kernel
theorem dL_law_436 : decode cL_law 436 = .ok (.iconst 1, 1) := by decide +kernel
theorem dL_law_437 : decode cL_law 437 = .ok (.iadd, 1) := by decide +kernel
theorem dL_law_438 : decode cL_law 438 = .ok (.iaload, 1) := by decide +kernel
theorem dL_law_439 : decode cL_law 439 = .ok (.aload_n 0, 1) := by decide +kernel
theorem dL_law_440 : decode cL_law 440 = .ok (.iload_n 3, 1) := by decide +kernel
theorem dL_law_441 : decode cL_law 441 = .ok (.iconst 2, 1) := by decide +kernel
theorem dL_law_442 : decode cL_law 442 = .ok (.iadd, 1) := by decide +kernel
theorem dL_law_443 : decode cL_law 443 = .ok (.iaload, 1) := by decide +kernel
theorem dL_law_444 : decode cL_law 444 = .ok (.aload_n 0, 1) := by decide +kernel
theorem dL_law_445 : decode cL_law 445 = .ok (.iload_n 3, 1) := by decide +kernel
theorem dL_law_446 : decode cL_law 446 = .ok (.iconst 3, 1) := by decide +kernel
theorem dL_law_447 : decode cL_law 447 = .ok (.iadd, 1) := by decide +kernel
theorem dL_law_448 : decode cL_law 448 = .ok (.iaload, 1) := by decide +kernel
theorem dL_law_449 : decode cL_law 449 = .ok (.aload_n 0, 1) := by decide +kernel
theorem dL_law_450 : decode cL_law 450 = .ok (.iload_n 3, 1) := by decide +kernel
theorem dL_law_451 : decode cL_law 451 = .ok (.iconst 4, 1) := by decide +kernel
theorem dL_law_452 : decode cL_law 452 = .ok (.iadd, 1) := by decide +kernel
theorem dL_law_453 : decode cL_law 453 = .ok (.iaload, 1) := by decide +kernel
theorem dL_law_454 : decode cL_law 454 = .ok (.ifCond .eq 7, 3) := by decide +kernel
theorem dL_law_457 : decode cL_law 457 = .ok (.iconst 1, 1) := by decide +kernel
theorem dL_law_458 : decode cL_law 458 = .ok (.goto 4, 3) := by decide +kernel
theorem dL_law_461 : decode cL_law 461 = .ok (.iconst 0, 1) := by decide +kernel
theorem dL_law_462 : decode cL_law 462 = .ok (.invokevirtual 57, 3) := by decide +kernel
theorem dL_law_465 : decode cL_law 465 = .ok (.if_icmp .eq 214, 3) := by decide +kernel
theorem dL_law_468 : decode cL_law 468 = .ok (.iconst 0, 1) := by decide +kernel
theorem dL_law_469 : decode cL_law 469 = .ok (.ireturn, 1) := by decide +kernel
theorem dL_law_470 : decode cL_law 470 = .ok (.aload_n 1, 1) := by decide +kernel
theorem dL_law_471 : decode cL_law 471 = .ok (.invokevirtual 58, 3) := by decide +kernel
theorem dL_law_474 : decode cL_law 474 = .ok (.aload_n 2, 1) := by decide +kernel
theorem dL_law_475 : decode cL_law 475 = .ok (.invokevirtual 61, 3) := by decide +kernel
theorem dL_law_478 : decode cL_law 478 = .ok (.if_icmp .eq 201, 3) := by decide +kernel
theorem dL_law_481 : decode cL_law 481 = .ok (.iconst 0, 1) := by decide +kernel
theorem dL_law_482 : decode cL_law 482 = .ok (.ireturn, 1) := by decide +kernel
theorem dL_law_483 : decode cL_law 483 = .ok (.aload_n 1, 1) := by decide +kernel
theorem dL_law_484 : decode cL_law 484 = .ok (.aload_n 0, 1) := by decide +kernel
theorem dL_law_485 : decode cL_law 485 = .ok (.iload_n 3, 1) := by decide +kernel
theorem dL_law_486 : decode cL_law 486 = .ok (.iconst 1, 1) := by decide +kernel
theorem dL_law_487 : decode cL_law 487 = .ok (.iadd, 1) := by decide +kernel
theorem dL_law_488 : decode cL_law 488 = .ok (.iaload, 1) := by decide +kernel
theorem dL_law_489 : decode cL_law 489 = .ok (.invokevirtual 62, 3) := by decide +kernel
theorem dL_law_492 : decode cL_law 492 = .ok (.aload_n 2, 1) := by decide +kernel
theorem dL_law_493 : decode cL_law 493 = .ok (.aload_n 0, 1) := by decide +kernel
theorem dL_law_494 : decode cL_law 494 = .ok (.iload_n 3, 1) := by decide +kernel
theorem dL_law_495 : decode cL_law 495 = .ok (.iconst 1, 1) := by decide +kernel
theorem dL_law_496 : decode cL_law 496 = .ok (.iadd, 1) := by decide +kernel
theorem dL_law_497 : decode cL_law 497 = .ok (.iaload, 1) := by decide +kernel
theorem dL_law_498 : decode cL_law 498 = .ok (.invokevirtual 65, 3) := by decide +kernel
theorem dL_law_501 : decode cL_law 501 = .ok (.if_icmp .eq 178, 3) := by decide +kernel
theorem dL_law_504 : decode cL_law 504 = .ok (.iconst 0, 1) := by decide +kernel
theorem dL_law_505 : decode cL_law 505 = .ok (.ireturn, 1) := by decide +kernel
theorem dL_law_506 : decode cL_law 506 = .ok (.aload_n 1, 1) := by decide +kernel
theorem dL_law_507 : decode cL_law 507 = .ok (.aload_n 0, 1) := by decide +kernel
theorem dL_law_508 : decode cL_law 508 = .ok (.iload_n 3, 1) := by decide +kernel
theorem dL_law_509 : decode cL_law 509 = .ok (.iconst 1, 1) := by decide +kernel
theorem dL_law_510 : decode cL_law 510 = .ok (.iadd, 1) := by decide +kernel
theorem dL_law_511 : decode cL_law 511 = .ok (.iaload, 1) := by decide +kernel
theorem dL_law_512 : decode cL_law 512 = .ok (.invokevirtual 66, 3) := by decide +kernel
theorem dL_law_515 : decode cL_law 515 = .ok (.aload_n 2, 1) := by decide +kernel
theorem dL_law_516 : decode cL_law 516 = .ok (.aload_n 0, 1) := by decide +kernel
theorem dL_law_517 : decode cL_law 517 = .ok (.iload_n 3, 1) := by decide +kernel
theorem dL_law_518 : decode cL_law 518 = .ok (.iconst 1, 1) := by decide +kernel
theorem dL_law_519 : decode cL_law 519 = .ok (.iadd, 1) := by decide +kernel
theorem dL_law_520 : decode cL_law 520 = .ok (.iaload, 1) := by decide +kernel
theorem dL_law_521 : decode cL_law 521 = .ok (.invokevirtual 70, 3) := by decide +kernel
theorem dL_law_524 : decode cL_law 524 = .ok (.lcmp, 1) := by decide +kernel
theorem dL_law_525 : decode cL_law 525 = .ok (.ifCond .eq 154, 3) := by decide +kernel
theorem dL_law_528 : decode cL_law 528 = .ok (.iconst 0, 1) := by decide +kernel
theorem dL_law_529 : decode cL_law 529 = .ok (.ireturn, 1) := by decide +kernel
theorem dL_law_530 : decode cL_law 530 = .ok (.aload_n 1, 1) := by decide +kernel
theorem dL_law_531 : decode cL_law 531 = .ok (.aload_n 0, 1) := by decide +kernel
theorem dL_law_532 : decode cL_law 532 = .ok (.iload_n 3, 1) := by decide +kernel
theorem dL_law_533 : decode cL_law 533 = .ok (.iconst 1, 1) := by decide +kernel
theorem dL_law_534 : decode cL_law 534 = .ok (.iadd, 1) := by decide +kernel
theorem dL_law_535 : decode cL_law 535 = .ok (.iaload, 1) := by decide +kernel
theorem dL_law_536 : decode cL_law 536 = .ok (.invokevirtual 71, 3) := by decide +kernel
theorem dL_law_539 : decode cL_law 539 = .ok (.aload_n 2, 1) := by decide +kernel
theorem dL_law_540 : decode cL_law 540 = .ok (.aload_n 0, 1) := by decide +kernel
theorem dL_law_541 : decode cL_law 541 = .ok (.iload_n 3, 1) := by decide +kernel
theorem dL_law_542 : decode cL_law 542 = .ok (.iconst 1, 1) := by decide +kernel
theorem dL_law_543 : decode cL_law 543 = .ok (.iadd, 1) := by decide +kernel
theorem dL_law_544 : decode cL_law 544 = .ok (.iaload, 1) := by decide +kernel
theorem dL_law_545 : decode cL_law 545 = .ok (.invokevirtual 74, 3) := by decide +kernel
theorem dL_law_548 : decode cL_law 548 = .ok (.if_icmp .eq 131, 3) := by decide +kernel
theorem dL_law_551 : decode cL_law 551 = .ok (.iconst 0, 1) := by decide +kernel
theorem dL_law_552 : decode cL_law 552 = .ok (.ireturn, 1) := by decide +kernel
theorem dL_law_553 : decode cL_law 553 = .ok (.aload_n 1, 1) := by decide +kernel
theorem dL_law_554 : decode cL_law 554 = .ok (.aload_n 0, 1) := by decide +kernel
theorem dL_law_555 : decode cL_law 555 = .ok (.iload_n 3, 1) := by decide +kernel
theorem dL_law_556 : decode cL_law 556 = .ok (.iconst 1, 1) := by decide +kernel
theorem dL_law_557 : decode cL_law 557 = .ok (.iadd, 1) := by decide +kernel
theorem dL_law_558 : decode cL_law 558 = .ok (.iaload, 1) := by decide +kernel
theorem dL_law_559 : decode cL_law 559 = .ok (.aload_n 0, 1) := by decide +kernel
theorem dL_law_560 : decode cL_law 560 = .ok (.iload_n 3, 1) := by decide +kernel
theorem dL_law_561 : decode cL_law 561 = .ok (.iconst 2, 1) := by decide +kernel
theorem dL_law_562 : decode cL_law 562 = .ok (.iadd, 1) := by decide +kernel
theorem dL_law_563 : decode cL_law 563 = .ok (.iaload, 1) := by decide +kernel
theorem dL_law_564 : decode cL_law 564 = .ok (.invokevirtual 75, 3) := by decide +kernel
theorem dL_law_567 : decode cL_law 567 = .ok (.aload_n 2, 1) := by decide +kernel
theorem dL_law_568 : decode cL_law 568 = .ok (.aload_n 0, 1) := by decide +kernel
theorem dL_law_569 : decode cL_law 569 = .ok (.iload_n 3, 1) := by decide +kernel
theorem dL_law_570 : decode cL_law 570 = .ok (.iconst 1, 1) := by decide +kernel
theorem dL_law_571 : decode cL_law 571 = .ok (.iadd, 1) := by decide +kernel
theorem dL_law_572 : decode cL_law 572 = .ok (.iaload, 1) := by decide +kernel
theorem dL_law_573 : decode cL_law 573 = .ok (.aload_n 0, 1) := by decide +kernel
theorem dL_law_574 : decode cL_law 574 = .ok (.iload_n 3, 1) := by decide +kernel
theorem dL_law_575 : decode cL_law 575 = .ok (.iconst 2, 1) := by decide +kernel
theorem dL_law_576 : decode cL_law 576 = .ok (.iadd, 1) := by decide +kernel
theorem dL_law_577 : decode cL_law 577 = .ok (.iaload, 1) := by decide +kernel
theorem dL_law_578 : decode cL_law 578 = .ok (.invokevirtual 78, 3) := by decide +kernel
theorem dL_law_581 : decode cL_law 581 = .ok (.if_icmp .eq 98, 3) := by decide +kernel
theorem dL_law_584 : decode cL_law 584 = .ok (.iconst 0, 1) := by decide +kernel
theorem dL_law_585 : decode cL_law 585 = .ok (.ireturn, 1) := by decide +kernel
theorem dL_law_586 : decode cL_law 586 = .ok (.aload_n 1, 1) := by decide +kernel
theorem dL_law_587 : decode cL_law 587 = .ok (.aload_n 0, 1) := by decide +kernel
theorem dL_law_588 : decode cL_law 588 = .ok (.iload_n 3, 1) := by decide +kernel
theorem dL_law_589 : decode cL_law 589 = .ok (.iconst 1, 1) := by decide +kernel
theorem dL_law_590 : decode cL_law 590 = .ok (.iadd, 1) := by decide +kernel
theorem dL_law_591 : decode cL_law 591 = .ok (.iaload, 1) := by decide +kernel
theorem dL_law_592 : decode cL_law 592 = .ok (.aload_n 0, 1) := by decide +kernel
theorem dL_law_593 : decode cL_law 593 = .ok (.iload_n 3, 1) := by decide +kernel
theorem dL_law_594 : decode cL_law 594 = .ok (.iconst 2, 1) := by decide +kernel
theorem dL_law_595 : decode cL_law 595 = .ok (.iadd, 1) := by decide +kernel
theorem dL_law_596 : decode cL_law 596 = .ok (.iaload, 1) := by decide +kernel
theorem dL_law_597 : decode cL_law 597 = .ok (.aload_n 0, 1) := by decide +kernel
theorem dL_law_598 : decode cL_law 598 = .ok (.iload_n 3, 1) := by decide +kernel
theorem dL_law_599 : decode cL_law 599 = .ok (.iconst 3, 1) := by decide +kernel
theorem dL_law_600 : decode cL_law 600 = .ok (.iadd, 1) := by decide +kernel
theorem dL_law_601 : decode cL_law 601 = .ok (.iaload, 1) := by decide +kernel
theorem dL_law_602 : decode cL_law 602 = .ok (.invokevirtual 79, 3) := by decide +kernel
theorem dL_law_605 : decode cL_law 605 = .ok (.aload_n 2, 1) := by decide +kernel
theorem dL_law_606 : decode cL_law 606 = .ok (.aload_n 0, 1) := by decide +kernel
theorem dL_law_607 : decode cL_law 607 = .ok (.iload_n 3, 1) := by decide +kernel
theorem dL_law_608 : decode cL_law 608 = .ok (.iconst 1, 1) := by decide +kernel
theorem dL_law_609 : decode cL_law 609 = .ok (.iadd, 1) := by decide +kernel
theorem dL_law_610 : decode cL_law 610 = .ok (.iaload, 1) := by decide +kernel
theorem dL_law_611 : decode cL_law 611 = .ok (.aload_n 0, 1) := by decide +kernel
theorem dL_law_612 : decode cL_law 612 = .ok (.iload_n 3, 1) := by decide +kernel
theorem dL_law_613 : decode cL_law 613 = .ok (.iconst 2, 1) := by decide +kernel
theorem dL_law_614 : decode cL_law 614 = .ok (.iadd, 1) := by decide +kernel
theorem dL_law_615 : decode cL_law 615 = .ok (.iaload, 1) := by decide +kernel
theorem dL_law_616 : decode cL_law 616 = .ok (.aload_n 0, 1) := by decide +kernel
theorem dL_law_617 : decode cL_law 617 = .ok (.iload_n 3, 1) := by decide +kernel
theorem dL_law_618 : decode cL_law 618 = .ok (.iconst 3, 1) := by decide +kernel
theorem dL_law_619 : decode cL_law 619 = .ok (.iadd, 1) := by decide +kernel
theorem dL_law_620 : decode cL_law 620 = .ok (.iaload, 1) := by decide +kernel
theorem dL_law_621 : decode cL_law 621 = .ok (.invokevirtual 83, 3) := by decide +kernel
theorem dL_law_624 : decode cL_law 624 = .ok (.lcmp, 1) := by decide +kernel
theorem dL_law_625 : decode cL_law 625 = .ok (.ifCond .eq 54, 3) := by decide +kernel
theorem dL_law_628 : decode cL_law 628 = .ok (.iconst 0, 1) := by decide +kernel
theorem dL_law_629 : decode cL_law 629 = .ok (.ireturn, 1) := by decide +kernel
theorem dL_law_630 : decode cL_law 630 = .ok (.aload_n 1, 1) := by decide +kernel
theorem dL_law_631 : decode cL_law 631 = .ok (.invokevirtual 84, 3) := by decide +kernel
theorem dL_law_634 : decode cL_law 634 = .ok (.aload_n 2, 1) := by decide +kernel
theorem dL_law_635 : decode cL_law 635 = .ok (.invokevirtual 87, 3) := by decide +kernel
theorem dL_law_638 : decode cL_law 638 = .ok (.if_icmp .eq 41, 3) := by decide +kernel
theorem dL_law_641 : decode cL_law 641 = .ok (.iconst 0, 1) := by decide +kernel
theorem dL_law_642 : decode cL_law 642 = .ok (.ireturn, 1) := by decide +kernel
theorem dL_law_643 : decode cL_law 643 = .ok (.aload_n 1, 1) := by decide +kernel
theorem dL_law_644 : decode cL_law 644 = .ok (.invokevirtual 88, 3) := by decide +kernel
theorem dL_law_647 : decode cL_law 647 = .ok (.aload_n 2, 1) := by decide +kernel
theorem dL_law_648 : decode cL_law 648 = .ok (.invokevirtual 91, 3) := by decide +kernel
theorem dL_law_651 : decode cL_law 651 = .ok (.if_icmp .eq 28, 3) := by decide +kernel
theorem dL_law_654 : decode cL_law 654 = .ok (.iconst 0, 1) := by decide +kernel
theorem dL_law_655 : decode cL_law 655 = .ok (.ireturn, 1) := by decide +kernel
theorem dL_law_656 : decode cL_law 656 = .ok (.aload_n 1, 1) := by decide +kernel
theorem dL_law_657 : decode cL_law 657 = .ok (.aload_n 0, 1) := by decide +kernel
theorem dL_law_658 : decode cL_law 658 = .ok (.iload_n 3, 1) := by decide +kernel
theorem dL_law_659 : decode cL_law 659 = .ok (.iconst 1, 1) := by decide +kernel
theorem dL_law_660 : decode cL_law 660 = .ok (.iadd, 1) := by decide +kernel
theorem dL_law_661 : decode cL_law 661 = .ok (.iaload, 1) := by decide +kernel
theorem dL_law_662 : decode cL_law 662 = .ok (.invokevirtual 92, 3) := by decide +kernel
theorem dL_law_665 : decode cL_law 665 = .ok (.aload_n 2, 1) := by decide +kernel
theorem dL_law_666 : decode cL_law 666 = .ok (.aload_n 0, 1) := by decide +kernel
theorem dL_law_667 : decode cL_law 667 = .ok (.iload_n 3, 1) := by decide +kernel
theorem dL_law_668 : decode cL_law 668 = .ok (.iconst 1, 1) := by decide +kernel
theorem dL_law_669 : decode cL_law 669 = .ok (.iadd, 1) := by decide +kernel
theorem dL_law_670 : decode cL_law 670 = .ok (.iaload, 1) := by decide +kernel
theorem dL_law_671 : decode cL_law 671 = .ok (.invokevirtual 95, 3) := by decide +kernel
theorem dL_law_674 : decode cL_law 674 = .ok (.if_icmp .eq 5, 3) := by decide +kernel
theorem dL_law_677 : decode cL_law 677 = .ok (.iconst 0, 1) := by decide +kernel
theorem dL_law_678 : decode cL_law 678 = .ok (.ireturn, 1) := by decide +kernel
theorem dL_law_679 : decode cL_law 679 = .ok (.iinc 3 6, 3) := by decide +kernel
theorem dL_law_682 : decode cL_law 682 = .ok (.goto (-664), 3) := by decide +kernel
theorem dL_law_685 : decode cL_law 685 = .ok (.iconst 1, 1) := by decide +kernel
theorem dL_law_686 : decode cL_law 686 = .ok (.ireturn, 1) := by decide +kernel
end
section
theorem dX0_init_0 : decode cX0_init 0 = .ok (.aload_n 0, 1) := by decide +kernel
theorem dX0_init_1 : decode cX0_init 1 = .ok (.invokespecial 3, 3) := by decide +kernel
theorem dX0_init_4 : decode cX0_init 4 = .ok (.aload_n 0, 1) := by decide +kernel
theorem dX0_init_5 : decode cX0_init 5 = .ok (.bipush 25, 2) := by decide +kernel
theorem dX0_init_7 : decode cX0_init 7 = .ok (.newarray .int, 2) := by decide +kernel
theorem dX0_init_9 : decode cX0_init 9 = .ok (.putfield 9, 3) := by decide +kernel
theorem dX0_init_12 : decode cX0_init 12 = .ok (.aload_n 0, 1) := by decide +kernel
theorem dX0_init_13 : decode cX0_init 13 = .ok (.bipush 25, 2) := by decide +kernel
theorem dX0_init_15 : decode cX0_init 15 = .ok (.newarray .int, 2) := by decide +kernel
theorem dX0_init_17 : decode cX0_init 17 = .ok (.putfield 15, 3) := by decide +kernel
theorem dX0_init_20 : decode cX0_init 20 = .ok (.aload_n 0, 1) := by decide +kernel
theorem dX0_init_21 : decode cX0_init 21 = .ok (.bipush 25, 2) := by decide +kernel
theorem dX0_init_23 : decode cX0_init 23 = .ok (.newarray .int, 2) := by decide +kernel
theorem dX0_init_25 : decode cX0_init 25 = .ok (.putfield 18, 3) := by decide +kernel
theorem dX0_init_28 : decode cX0_init 28 = .ok (.aload_n 0, 1) := by decide +kernel
theorem dX0_init_29 : decode cX0_init 29 = .ok (.iconst 0, 1) := by decide +kernel
theorem dX0_init_30 : decode cX0_init 30 = .ok (.putfield 21, 3) := by decide +kernel
theorem dX0_init_33 : decode cX0_init 33 = .ok (.aload_n 0, 1) := by decide +kernel
theorem dX0_init_34 : decode cX0_init 34 = .ok (.iconst 0, 1) := by decide +kernel
theorem dX0_init_35 : decode cX0_init 35 = .ok (.putfield 25, 3) := by decide +kernel
theorem dX0_init_38 : decode cX0_init 38 = .ok (.aload_n 0, 1) := by decide +kernel
theorem dX0_init_39 : decode cX0_init 39 = .ok (.iconst (-1), 1) := by decide +kernel
theorem dX0_init_40 : decode cX0_init 40 = .ok (.putfield 28, 3) := by decide +kernel
theorem dX0_init_43 : decode cX0_init 43 = .ok (.return_, 1) := by decide +kernel
theorem dX0_renew_0 : decode cX0_renew 0 = .ok (.aload_n 0, 1) := by decide +kernel
theorem dX0_renew_1 : decode cX0_renew 1 = .ok (.getfield 28, 3) := by decide +kernel
theorem dX0_renew_4 : decode cX0_renew 4 = .ok (.aload_n 1, 1) := by decide +kernel
theorem dX0_renew_5 : decode cX0_renew 5 = .ok (.getfield 31, 3) := by decide +kernel
theorem dX0_renew_8 : decode cX0_renew 8 = .ok (.if_icmp .ne 4, 3) := by decide +kernel
theorem dX0_renew_11 : decode cX0_renew 11 = .ok (.return_, 1) := by decide +kernel
theorem dX0_renew_12 : decode cX0_renew 12 = .ok (.aload_n 0, 1) := by decide +kernel
theorem dX0_renew_13 : decode cX0_renew 13 = .ok (.aload_n 1, 1) := by decide +kernel
theorem dX0_renew_14 : decode cX0_renew 14 = .ok (.getfield 31, 3) := by decide +kernel
theorem dX0_renew_17 : decode cX0_renew 17 = .ok (.putfield 28, 3) := by decide +kernel
theorem dX0_renew_20 : decode cX0_renew 20 = .ok (.aload_n 0, 1) := by decide +kernel
theorem dX0_renew_21 : decode cX0_renew 21 = .ok (.aload_n 2, 1) := by decide +kernel
theorem dX0_renew_22 : decode cX0_renew 22 = .ok (.invokevirtual 36, 3) := by decide +kernel
theorem dX0_renew_25 : decode cX0_renew 25 = .ok (.aload_n 0, 1) := by decide +kernel
theorem dX0_renew_26 : decode cX0_renew 26 = .ok (.aload_n 1, 1) := by decide +kernel
theorem dX0_renew_27 : decode cX0_renew 27 = .ok (.invokevirtual 40, 3) := by decide +kernel
theorem dX0_renew_30 : decode cX0_renew 30 = .ok (.aload_n 0, 1) := by decide +kernel
theorem dX0_renew_31 : decode cX0_renew 31 = .ok (.aload_n 1, 1) := by decide +kernel
theorem dX0_renew_32 : decode cX0_renew 32 = .ok (.invokevirtual 44, 3) := by decide +kernel
theorem dX0_renew_35 : decode cX0_renew 35 = .ok (.aload_n 0, 1) := by decide +kernel
theorem dX0_renew_36 : decode cX0_renew 36 = .ok (.aload_n 1, 1) := by decide +kernel
theorem dX0_renew_37 : decode cX0_renew 37 = .ok (.invokevirtual 47, 3) := by decide +kernel
theorem dX0_renew_40 : decode cX0_renew 40 = .ok (.return_, 1) := by decide +kernel
theorem dX0_findExits_0 : decode cX0_findExits 0 = .ok (.iconst 0, 1) := by decide +kernel
theorem dX0_findExits_1 : decode cX0_findExits 1 = .ok (.istore_n 2, 1) := by decide +kernel
theorem dX0_findExits_2 : decode cX0_findExits 2 = .ok (.iload_n 2, 1) := by decide +kernel
theorem dX0_findExits_3 : decode cX0_findExits 3 = .ok (.bipush 25, 2) := by decide +kernel
theorem dX0_findExits_5 : decode cX0_findExits 5 = .ok (.if_icmp .ge 58, 3) := by decide +kernel
theorem dX0_findExits_8 : decode cX0_findExits 8 = .ok (.aload_n 0, 1) := by decide +kernel
theorem dX0_findExits_9 : decode cX0_findExits 9 = .ok (.getfield 9, 3) := by decide +kernel
theorem dX0_findExits_12 : decode cX0_findExits 12 = .ok (.iload_n 2, 1) := by decide +kernel
theorem dX0_findExits_13 : decode cX0_findExits 13 = .ok (.iconst 0, 1) := by decide +kernel
theorem dX0_findExits_14 : decode cX0_findExits 14 = .ok (.iastore, 1) := by decide +kernel
theorem dX0_findExits_15 : decode cX0_findExits 15 = .ok (.iconst 0, 1) := by decide +kernel
theorem dX0_findExits_16 : decode cX0_findExits 16 = .ok (.istore_n 3, 1) := by decide +kernel
theorem dX0_findExits_17 : decode cX0_findExits 17 = .ok (.iload_n 3, 1) := by decide +kernel
theorem dX0_findExits_18 : decode cX0_findExits 18 = .ok (.iconst 5, 1) := by decide +kernel
theorem dX0_findExits_19 : decode cX0_findExits 19 = .ok (.if_icmp .ge 38, 3) := by decide +kernel
theorem dX0_findExits_22 : decode cX0_findExits 22 = .ok (.aload_n 1, 1) := by decide +kernel
theorem dX0_findExits_23 : decode cX0_findExits 23 = .ok (.getfield 50, 3) := by decide +kernel
theorem dX0_findExits_26 : decode cX0_findExits 26 = .ok (.iload_n 2, 1) := by decide +kernel
theorem dX0_findExits_27 : decode cX0_findExits 27 = .ok (.iconst 5, 1) := by decide +kernel
theorem dX0_findExits_28 : decode cX0_findExits 28 = .ok (.imul, 1) := by decide +kernel
theorem dX0_findExits_29 : decode cX0_findExits 29 = .ok (.iload_n 3, 1) := by decide +kernel
theorem dX0_findExits_30 : decode cX0_findExits 30 = .ok (.iadd, 1) := by decide +kernel
theorem dX0_findExits_31 : decode cX0_findExits 31 = .ok (.laload, 1) := by decide +kernel
theorem dX0_findExits_32 : decode cX0_findExits 32 = .ok (.ldc2_w 56, 3) := by decide +kernel
theorem dX0_findExits_35 : decode cX0_findExits 35 = .ok (.lcmp, 1) := by decide +kernel
theorem dX0_findExits_36 : decode cX0_findExits 36 = .ok (.ifCond .eq 15, 3) := by decide +kernel
theorem dX0_findExits_39 : decode cX0_findExits 39 = .ok (.aload_n 0, 1) := by decide +kernel
theorem dX0_findExits_40 : decode cX0_findExits 40 = .ok (.getfield 9, 3) := by decide +kernel
theorem dX0_findExits_43 : decode cX0_findExits 43 = .ok (.iload_n 2, 1) := by decide +kernel
theorem dX0_findExits_44 : decode cX0_findExits 44 = .ok (.dup2, 1) := by decide +kernel
theorem dX0_findExits_45 : decode cX0_findExits 45 = .ok (.iaload, 1) := by decide +kernel
theorem dX0_findExits_46 : decode cX0_findExits 46 = .ok (.iconst 1, 1) := by decide +kernel
theorem dX0_findExits_47 : decode cX0_findExits 47 = .ok (.iload_n 3, 1) := by decide +kernel
theorem dX0_findExits_48 : decode cX0_findExits 48 = .ok (.ishl, 1) := by decide +kernel
theorem dX0_findExits_49 : decode cX0_findExits 49 = .ok (.ior, 1) := by decide +kernel
theorem dX0_findExits_50 : decode cX0_findExits 50 = .ok (.iastore, 1) := by decide +kernel
theorem dX0_findExits_51 : decode cX0_findExits 51 = .ok (.iinc 3 1, 3) := by decide +kernel
theorem dX0_findExits_54 : decode cX0_findExits 54 = .ok (.goto (-37), 3) := by decide +kernel
theorem dX0_findExits_57 : decode cX0_findExits 57 = .ok (.iinc 2 1, 3) := by decide +kernel
theorem dX0_findExits_60 : decode cX0_findExits 60 = .ok (.goto (-58), 3) := by decide +kernel
theorem dX0_findExits_63 : decode cX0_findExits 63 = .ok (.return_, 1) := by decide +kernel
theorem dX0_findAhead_0 : decode cX0_findAhead 0 = .ok (.aload_n 0, 1) := by decide +kernel
theorem dX0_findAhead_1 : decode cX0_findAhead 1 = .ok (.getfield 15, 3) := by decide +kernel
theorem dX0_findAhead_4 : decode cX0_findAhead 4 = .ok (.iconst 0, 1) := by decide +kernel
theorem dX0_findAhead_5 : decode cX0_findAhead 5 = .ok (.invokestatic 58, 3) := by decide +kernel
theorem dX0_findAhead_8 : decode cX0_findAhead 8 = .ok (.iconst 0, 1) := by decide +kernel
theorem dX0_findAhead_9 : decode cX0_findAhead 9 = .ok (.istore_n 2, 1) := by decide +kernel
theorem dX0_findAhead_10 : decode cX0_findAhead 10 = .ok (.iload_n 2, 1) := by decide +kernel
theorem dX0_findAhead_11 : decode cX0_findAhead 11 = .ok (.aload_n 1, 1) := by decide +kernel
theorem dX0_findAhead_12 : decode cX0_findAhead 12 = .ok (.getfield 64, 3) := by decide +kernel
theorem dX0_findAhead_15 : decode cX0_findAhead 15 = .ok (.if_icmp .ge 57, 3) := by decide +kernel
theorem dX0_findAhead_18 : decode cX0_findAhead 18 = .ok (.aload_n 1, 1) := by decide +kernel
theorem dX0_findAhead_19 : decode cX0_findAhead 19 = .ok (.getfield 67, 3) := by decide +kernel
theorem dX0_findAhead_22 : decode cX0_findAhead 22 = .ok (.iload_n 2, 1) := by decide +kernel
theorem dX0_findAhead_23 : decode cX0_findAhead 23 = .ok (.iaload, 1) := by decide +kernel
theorem dX0_findAhead_24 : decode cX0_findAhead 24 = .ok (.iconst (-1), 1) := by decide +kernel
theorem dX0_findAhead_25 : decode cX0_findAhead 25 = .ok (.if_icmp .eq 41, 3) := by decide +kernel
theorem dX0_findAhead_28 : decode cX0_findAhead 28 = .ok (.aload_n 0, 1) := by decide +kernel
theorem dX0_findAhead_29 : decode cX0_findAhead 29 = .ok (.getfield 15, 3) := by decide +kernel
theorem dX0_findAhead_32 : decode cX0_findAhead 32 = .ok (.aload_n 1, 1) := by decide +kernel
theorem dX0_findAhead_33 : decode cX0_findAhead 33 = .ok (.getfield 70, 3) := by decide +kernel
theorem dX0_findAhead_36 : decode cX0_findAhead 36 = .ok (.iload_n 2, 1) := by decide +kernel
theorem dX0_findAhead_37 : decode cX0_findAhead 37 = .ok (.iaload, 1) := by decide +kernel
theorem dX0_findAhead_38 : decode cX0_findAhead 38 = .ok (.dup2, 1) := by decide +kernel
theorem dX0_findAhead_39 : decode cX0_findAhead 39 = .ok (.iaload, 1) := by decide +kernel
theorem dX0_findAhead_40 : decode cX0_findAhead 40 = .ok (.iconst 1, 1) := by decide +kernel
theorem dX0_findAhead_41 : decode cX0_findAhead 41 = .ok (.aload_n 1, 1) := by decide +kernel
theorem dX0_findAhead_42 : decode cX0_findAhead 42 = .ok (.getfield 73, 3) := by decide +kernel
theorem dX0_findAhead_45 : decode cX0_findAhead 45 = .ok (.iload_n 2, 1) := by decide +kernel
theorem dX0_findAhead_46 : decode cX0_findAhead 46 = .ok (.iaload, 1) := by decide +kernel
theorem dX0_findAhead_47 : decode cX0_findAhead 47 = .ok (.aload_n 1, 1) := by decide +kernel
theorem dX0_findAhead_48 : decode cX0_findAhead 48 = .ok (.getfield 67, 3) := by decide +kernel
theorem dX0_findAhead_51 : decode cX0_findAhead 51 = .ok (.iload_n 2, 1) := by decide +kernel
theorem dX0_findAhead_52 : decode cX0_findAhead 52 = .ok (.iaload, 1) := by decide +kernel
theorem dX0_findAhead_53 : decode cX0_findAhead 53 = .ok (.invokestatic 76, 3) := by decide +kernel
theorem dX0_findAhead_56 : decode cX0_findAhead 56 = .ok (.ishl, 1) := by decide +kernel
theorem dX0_findAhead_57 : decode cX0_findAhead 57 = .ok (.aload_n 0, 1) := by decide +kernel
theorem dX0_findAhead_58 : decode cX0_findAhead 58 = .ok (.aload_n 1, 1) := by decide +kernel
theorem dX0_findAhead_59 : decode cX0_findAhead 59 = .ok (.iload_n 2, 1) := by decide +kernel
theorem dX0_findAhead_60 : decode cX0_findAhead 60 = .ok (.invokevirtual 80, 3) := by decide +kernel
theorem dX0_findAhead_63 : decode cX0_findAhead 63 = .ok (.ior, 1) := by decide +kernel
theorem dX0_findAhead_64 : decode cX0_findAhead 64 = .ok (.ior, 1) := by decide +kernel
theorem dX0_findAhead_65 : decode cX0_findAhead 65 = .ok (.iastore, 1) := by decide +kernel
theorem dX0_findAhead_66 : decode cX0_findAhead 66 = .ok (.iinc 2 1, 3) := by decide +kernel
theorem dX0_findAhead_69 : decode cX0_findAhead 69 = .ok (.goto (-59), 3) := by decide +kernel
theorem dX0_findAhead_72 : decode cX0_findAhead 72 = .ok (.iconst 0, 1) := by decide +kernel
theorem dX0_findAhead_73 : decode cX0_findAhead 73 = .ok (.istore_n 2, 1) := by decide +kernel
theorem dX0_findAhead_74 : decode cX0_findAhead 74 = .ok (.iload_n 2, 1) := by decide +kernel
theorem dX0_findAhead_75 : decode cX0_findAhead 75 = .ok (.bipush 25, 2) := by decide +kernel
theorem dX0_findAhead_77 : decode cX0_findAhead 77 = .ok (.if_icmp .ge 51, 3) := by decide +kernel
theorem dX0_findAhead_80 : decode cX0_findAhead 80 = .ok (.iconst 0, 1) := by decide +kernel
theorem dX0_findAhead_81 : decode cX0_findAhead 81 = .ok (.istore_n 3, 1) := by decide +kernel
theorem dX0_findAhead_82 : decode cX0_findAhead 82 = .ok (.iload_n 3, 1) := by decide +kernel
theorem dX0_findAhead_83 : decode cX0_findAhead 83 = .ok (.bipush 25, 2) := by decide +kernel
theorem dX0_findAhead_85 : decode cX0_findAhead 85 = .ok (.if_icmp .ge 37, 3) := by decide +kernel
theorem dX0_findAhead_88 : decode cX0_findAhead 88 = .ok (.aload_n 0, 1) := by decide +kernel
theorem dX0_findAhead_89 : decode cX0_findAhead 89 = .ok (.getfield 15, 3) := by decide +kernel
theorem dX0_findAhead_92 : decode cX0_findAhead 92 = .ok (.iload_n 3, 1) := by decide +kernel
theorem dX0_findAhead_93 : decode cX0_findAhead 93 = .ok (.iaload, 1) := by decide +kernel
theorem dX0_findAhead_94 : decode cX0_findAhead 94 = .ok (.iload_n 2, 1) := by decide +kernel
theorem dX0_findAhead_95 : decode cX0_findAhead 95 = .ok (.invokestatic 84, 3) := by decide +kernel
theorem dX0_findAhead_98 : decode cX0_findAhead 98 = .ok (.ifCond .eq 18, 3) := by decide +kernel
theorem dX0_findAhead_101 : decode cX0_findAhead 101 = .ok (.aload_n 0, 1) := by decide +kernel
theorem dX0_findAhead_102 : decode cX0_findAhead 102 = .ok (.getfield 15, 3) := by decide +kernel
theorem dX0_findAhead_105 : decode cX0_findAhead 105 = .ok (.iload_n 3, 1) := by decide +kernel
theorem dX0_findAhead_106 : decode cX0_findAhead 106 = .ok (.dup2, 1) := by decide +kernel
theorem dX0_findAhead_107 : decode cX0_findAhead 107 = .ok (.iaload, 1) := by decide +kernel
theorem dX0_findAhead_108 : decode cX0_findAhead 108 = .ok (.aload_n 0, 1) := by decide +kernel
theorem dX0_findAhead_109 : decode cX0_findAhead 109 = .ok (.getfield 15, 3) := by decide +kernel
theorem dX0_findAhead_112 : decode cX0_findAhead 112 = .ok (.iload_n 2, 1) := by decide +kernel
theorem dX0_findAhead_113 : decode cX0_findAhead 113 = .ok (.iaload, 1) := by decide +kernel
theorem dX0_findAhead_114 : decode cX0_findAhead 114 = .ok (.ior, 1) := by decide +kernel
theorem dX0_findAhead_115 : decode cX0_findAhead 115 = .ok (.iastore, 1) := by decide +kernel
theorem dX0_findAhead_116 : decode cX0_findAhead 116 = .ok (.iinc 3 1, 3) := by decide +kernel
theorem dX0_findAhead_119 : decode cX0_findAhead 119 = .ok (.goto (-37), 3) := by decide +kernel
theorem dX0_findAhead_122 : decode cX0_findAhead 122 = .ok (.iinc 2 1, 3) := by decide +kernel
theorem dX0_findAhead_125 : decode cX0_findAhead 125 = .ok (.goto (-51), 3) := by decide +kernel
theorem dX0_findAhead_128 : decode cX0_findAhead 128 = .ok (.return_, 1) := by decide +kernel
theorem dX0_uncovered_0 : decode cX0_uncovered 0 = .ok (.iconst 0, 1) := by decide +kernel
theorem dX0_uncovered_1 : decode cX0_uncovered 1 = .ok (.istore_n 3, 1) := by decide +kernel
theorem dX0_uncovered_2 : decode cX0_uncovered 2 = .ok (.aload_n 1, 1) := by decide +kernel
theorem dX0_uncovered_3 : decode cX0_uncovered 3 = .ok (.getfield 88, 3) := by decide +kernel
theorem dX0_uncovered_6 : decode cX0_uncovered 6 = .ok (.iload_n 2, 1) := by decide +kernel
theorem dX0_uncovered_7 : decode cX0_uncovered 7 = .ok (.iaload, 1) := by decide +kernel
theorem dX0_uncovered_8 : decode cX0_uncovered 8 = .ok (.iconst (-1), 1) := by decide +kernel
theorem dX0_uncovered_9 : decode cX0_uncovered 9 = .ok (.if_icmp .eq 66, 3) := by decide +kernel
theorem dX0_uncovered_12 : decode cX0_uncovered 12 = .ok (.aload_n 0, 1) := by decide +kernel
theorem dX0_uncovered_13 : decode cX0_uncovered 13 = .ok (.getfield 9, 3) := by decide +kernel
theorem dX0_uncovered_16 : decode cX0_uncovered 16 = .ok (.aload_n 1, 1) := by decide +kernel
theorem dX0_uncovered_17 : decode cX0_uncovered 17 = .ok (.getfield 73, 3) := by decide +kernel
theorem dX0_uncovered_20 : decode cX0_uncovered 20 = .ok (.iload_n 2, 1) := by decide +kernel
theorem dX0_uncovered_21 : decode cX0_uncovered 21 = .ok (.iaload, 1) := by decide +kernel
theorem dX0_uncovered_22 : decode cX0_uncovered 22 = .ok (.aload_n 1, 1) := by decide +kernel
theorem dX0_uncovered_23 : decode cX0_uncovered 23 = .ok (.getfield 67, 3) := by decide +kernel
theorem dX0_uncovered_26 : decode cX0_uncovered 26 = .ok (.iload_n 2, 1) := by decide +kernel
theorem dX0_uncovered_27 : decode cX0_uncovered 27 = .ok (.iaload, 1) := by decide +kernel
theorem dX0_uncovered_28 : decode cX0_uncovered 28 = .ok (.invokestatic 76, 3) := by decide +kernel
theorem dX0_uncovered_31 : decode cX0_uncovered 31 = .ok (.iaload, 1) := by decide +kernel
theorem dX0_uncovered_32 : decode cX0_uncovered 32 = .ok (.istore 4, 2) := by decide +kernel
theorem dX0_uncovered_34 : decode cX0_uncovered 34 = .ok (.iconst 0, 1) := by decide +kernel
theorem dX0_uncovered_35 : decode cX0_uncovered 35 = .ok (.istore 5, 2) := by decide +kernel
theorem dX0_uncovered_37 : decode cX0_uncovered 37 = .ok (.iload 5, 2) := by decide +kernel
theorem dX0_uncovered_39 : decode cX0_uncovered 39 = .ok (.iconst 5, 1) := by decide +kernel
theorem dX0_uncovered_40 : decode cX0_uncovered 40 = .ok (.if_icmp .ge 35, 3) := by decide +kernel
theorem dX0_uncovered_43 : decode cX0_uncovered 43 = .ok (.iload 4, 2) := by decide +kernel
theorem dX0_uncovered_45 : decode cX0_uncovered 45 = .ok (.iload 5, 2) := by decide +kernel
theorem dX0_uncovered_47 : decode cX0_uncovered 47 = .ok (.invokestatic 84, 3) := by decide +kernel
theorem dX0_uncovered_50 : decode cX0_uncovered 50 = .ok (.ifCond .eq 19, 3) := by decide +kernel
theorem dX0_uncovered_53 : decode cX0_uncovered 53 = .ok (.iload_n 3, 1) := by decide +kernel
theorem dX0_uncovered_54 : decode cX0_uncovered 54 = .ok (.iconst 1, 1) := by decide +kernel
theorem dX0_uncovered_55 : decode cX0_uncovered 55 = .ok (.iload 5, 2) := by decide +kernel
theorem dX0_uncovered_57 : decode cX0_uncovered 57 = .ok (.aload_n 1, 1) := by decide +kernel
theorem dX0_uncovered_58 : decode cX0_uncovered 58 = .ok (.getfield 88, 3) := by decide +kernel
theorem dX0_uncovered_61 : decode cX0_uncovered 61 = .ok (.iload_n 2, 1) := by decide +kernel
theorem dX0_uncovered_62 : decode cX0_uncovered 62 = .ok (.iaload, 1) := by decide +kernel
theorem dX0_uncovered_63 : decode cX0_uncovered 63 = .ok (.invokestatic 76, 3) := by decide +kernel
theorem dX0_uncovered_66 : decode cX0_uncovered 66 = .ok (.ishl, 1) := by decide +kernel
theorem dX0_uncovered_67 : decode cX0_uncovered 67 = .ok (.ior, 1) := by decide +kernel
theorem dX0_uncovered_68 : decode cX0_uncovered 68 = .ok (.istore_n 3, 1) := by decide +kernel
theorem dX0_uncovered_69 : decode cX0_uncovered 69 = .ok (.iinc 5 1, 3) := by decide +kernel
theorem dX0_uncovered_72 : decode cX0_uncovered 72 = .ok (.goto (-35), 3) := by decide +kernel
theorem dX0_uncovered_75 : decode cX0_uncovered 75 = .ok (.iload_n 3, 1) := by decide +kernel
theorem dX0_uncovered_76 : decode cX0_uncovered 76 = .ok (.ireturn, 1) := by decide +kernel
theorem dX0_findCircles_0 : decode cX0_findCircles 0 = .ok (.iconst 0, 1) := by decide +kernel
theorem dX0_findCircles_1 : decode cX0_findCircles 1 = .ok (.istore_n 2, 1) := by decide +kernel
theorem dX0_findCircles_2 : decode cX0_findCircles 2 = .ok (.iconst 0, 1) := by decide +kernel
theorem dX0_findCircles_3 : decode cX0_findCircles 3 = .ok (.istore_n 3, 1) := by decide +kernel
theorem dX0_findCircles_4 : decode cX0_findCircles 4 = .ok (.iload_n 3, 1) := by decide +kernel
theorem dX0_findCircles_5 : decode cX0_findCircles 5 = .ok (.bipush 25, 2) := by decide +kernel
theorem dX0_findCircles_7 : decode cX0_findCircles 7 = .ok (.if_icmp .ge 22, 3) := by decide +kernel
theorem dX0_findCircles_10 : decode cX0_findCircles 10 = .ok (.iload_n 2, 1) := by decide +kernel
theorem dX0_findCircles_11 : decode cX0_findCircles 11 = .ok (.aload_n 0, 1) := by decide +kernel
theorem dX0_findCircles_12 : decode cX0_findCircles 12 = .ok (.getfield 15, 3) := by decide +kernel
theorem dX0_findCircles_15 : decode cX0_findCircles 15 = .ok (.iload_n 3, 1) := by decide +kernel
theorem dX0_findCircles_16 : decode cX0_findCircles 16 = .ok (.iaload, 1) := by decide +kernel
theorem dX0_findCircles_17 : decode cX0_findCircles 17 = .ok (.iconst 1, 1) := by decide +kernel
theorem dX0_findCircles_18 : decode cX0_findCircles 18 = .ok (.iload_n 3, 1) := by decide +kernel
theorem dX0_findCircles_19 : decode cX0_findCircles 19 = .ok (.ishl, 1) := by decide +kernel
theorem dX0_findCircles_20 : decode cX0_findCircles 20 = .ok (.iand, 1) := by decide +kernel
theorem dX0_findCircles_21 : decode cX0_findCircles 21 = .ok (.ior, 1) := by decide +kernel
theorem dX0_findCircles_22 : decode cX0_findCircles 22 = .ok (.istore_n 2, 1) := by decide +kernel
theorem dX0_findCircles_23 : decode cX0_findCircles 23 = .ok (.iinc 3 1, 3) := by decide +kernel
theorem dX0_findCircles_26 : decode cX0_findCircles 26 = .ok (.goto (-22), 3) := by decide +kernel
theorem dX0_findCircles_29 : decode cX0_findCircles 29 = .ok (.iconst 0, 1) := by decide +kernel
theorem dX0_findCircles_30 : decode cX0_findCircles 30 = .ok (.istore_n 3, 1) := by decide +kernel
theorem dX0_findCircles_31 : decode cX0_findCircles 31 = .ok (.iconst 0, 1) := by decide +kernel
theorem dX0_findCircles_32 : decode cX0_findCircles 32 = .ok (.istore 4, 2) := by decide +kernel
theorem dX0_findCircles_34 : decode cX0_findCircles 34 = .ok (.iload 4, 2) := by decide +kernel
theorem dX0_findCircles_36 : decode cX0_findCircles 36 = .ok (.aload_n 1, 1) := by decide +kernel
theorem dX0_findCircles_37 : decode cX0_findCircles 37 = .ok (.getfield 64, 3) := by decide +kernel
theorem dX0_findCircles_40 : decode cX0_findCircles 40 = .ok (.if_icmp .ge 64, 3) := by decide +kernel
theorem dX0_findCircles_43 : decode cX0_findCircles 43 = .ok (.aload_n 1, 1) := by decide +kernel
theorem dX0_findCircles_44 : decode cX0_findCircles 44 = .ok (.getfield 88, 3) := by decide +kernel
theorem dX0_findCircles_47 : decode cX0_findCircles 47 = .ok (.iload 4, 2) := by decide +kernel
theorem dX0_findCircles_49 : decode cX0_findCircles 49 = .ok (.iaload, 1) := by decide +kernel
theorem dX0_findCircles_50 : decode cX0_findCircles 50 = .ok (.iconst (-1), 1) := by decide +kernel
theorem dX0_findCircles_51 : decode cX0_findCircles 51 = .ok (.if_icmp .eq 47, 3) := by decide +kernel
theorem dX0_findCircles_54 : decode cX0_findCircles 54 = .ok (.aload_n 1, 1) := by decide +kernel
theorem dX0_findCircles_55 : decode cX0_findCircles 55 = .ok (.getfield 73, 3) := by decide +kernel
theorem dX0_findCircles_58 : decode cX0_findCircles 58 = .ok (.iload 4, 2) := by decide +kernel
theorem dX0_findCircles_60 : decode cX0_findCircles 60 = .ok (.iaload, 1) := by decide +kernel
theorem dX0_findCircles_61 : decode cX0_findCircles 61 = .ok (.aload_n 1, 1) := by decide +kernel
theorem dX0_findCircles_62 : decode cX0_findCircles 62 = .ok (.getfield 67, 3) := by decide +kernel
theorem dX0_findCircles_65 : decode cX0_findCircles 65 = .ok (.iload 4, 2) := by decide +kernel
theorem dX0_findCircles_67 : decode cX0_findCircles 67 = .ok (.iaload, 1) := by decide +kernel
theorem dX0_findCircles_68 : decode cX0_findCircles 68 = .ok (.invokestatic 76, 3) := by decide +kernel
theorem dX0_findCircles_71 : decode cX0_findCircles 71 = .ok (.istore 5, 2) := by decide +kernel
theorem dX0_findCircles_73 : decode cX0_findCircles 73 = .ok (.iload_n 3, 1) := by decide +kernel
theorem dX0_findCircles_74 : decode cX0_findCircles 74 = .ok (.aload_n 0, 1) := by decide +kernel
theorem dX0_findCircles_75 : decode cX0_findCircles 75 = .ok (.getfield 15, 3) := by decide +kernel
theorem dX0_findCircles_78 : decode cX0_findCircles 78 = .ok (.iload 5, 2) := by decide +kernel
theorem dX0_findCircles_80 : decode cX0_findCircles 80 = .ok (.iaload, 1) := by decide +kernel
theorem dX0_findCircles_81 : decode cX0_findCircles 81 = .ok (.iconst 1, 1) := by decide +kernel
theorem dX0_findCircles_82 : decode cX0_findCircles 82 = .ok (.iload 5, 2) := by decide +kernel
theorem dX0_findCircles_84 : decode cX0_findCircles 84 = .ok (.ishl, 1) := by decide +kernel
theorem dX0_findCircles_85 : decode cX0_findCircles 85 = .ok (.ior, 1) := by decide +kernel
theorem dX0_findCircles_86 : decode cX0_findCircles 86 = .ok (.iconst 1, 1) := by decide +kernel
theorem dX0_findCircles_87 : decode cX0_findCircles 87 = .ok (.aload_n 1, 1) := by decide +kernel
theorem dX0_findCircles_88 : decode cX0_findCircles 88 = .ok (.getfield 70, 3) := by decide +kernel
theorem dX0_findCircles_91 : decode cX0_findCircles 91 = .ok (.iload 4, 2) := by decide +kernel
theorem dX0_findCircles_93 : decode cX0_findCircles 93 = .ok (.iaload, 1) := by decide +kernel
theorem dX0_findCircles_94 : decode cX0_findCircles 94 = .ok (.ishl, 1) := by decide +kernel
theorem dX0_findCircles_95 : decode cX0_findCircles 95 = .ok (.iand, 1) := by decide +kernel
theorem dX0_findCircles_96 : decode cX0_findCircles 96 = .ok (.ior, 1) := by decide +kernel
theorem dX0_findCircles_97 : decode cX0_findCircles 97 = .ok (.istore_n 3, 1) := by decide +kernel
theorem dX0_findCircles_98 : decode cX0_findCircles 98 = .ok (.iinc 4 1, 3) := by decide +kernel
theorem dX0_findCircles_101 : decode cX0_findCircles 101 = .ok (.goto (-67), 3) := by decide +kernel
theorem dX0_findCircles_104 : decode cX0_findCircles 104 = .ok (.aload_n 0, 1) := by decide +kernel
theorem dX0_findCircles_105 : decode cX0_findCircles 105 = .ok (.aload_n 0, 1) := by decide +kernel
theorem dX0_findCircles_106 : decode cX0_findCircles 106 = .ok (.iload_n 2, 1) := by decide +kernel
theorem dX0_findCircles_107 : decode cX0_findCircles 107 = .ok (.invokevirtual 91, 3) := by decide +kernel
theorem dX0_findCircles_110 : decode cX0_findCircles 110 = .ok (.putfield 21, 3) := by decide +kernel
theorem dX0_findCircles_113 : decode cX0_findCircles 113 = .ok (.aload_n 0, 1) := by decide +kernel
theorem dX0_findCircles_114 : decode cX0_findCircles 114 = .ok (.aload_n 0, 1) := by decide +kernel
theorem dX0_findCircles_115 : decode cX0_findCircles 115 = .ok (.iload_n 3, 1) := by decide +kernel
theorem dX0_findCircles_116 : decode cX0_findCircles 116 = .ok (.invokevirtual 91, 3) := by decide +kernel
theorem dX0_findCircles_119 : decode cX0_findCircles 119 = .ok (.putfield 25, 3) := by decide +kernel
theorem dX0_findCircles_122 : decode cX0_findCircles 122 = .ok (.return_, 1) := by decide +kernel
theorem dX0_leadingTo_0 : decode cX0_leadingTo 0 = .ok (.iconst 0, 1) := by decide +kernel
theorem dX0_leadingTo_1 : decode cX0_leadingTo 1 = .ok (.istore_n 2, 1) := by decide +kernel
theorem dX0_leadingTo_2 : decode cX0_leadingTo 2 = .ok (.iconst 0, 1) := by decide +kernel
theorem dX0_leadingTo_3 : decode cX0_leadingTo 3 = .ok (.istore_n 3, 1) := by decide +kernel
theorem dX0_leadingTo_4 : decode cX0_leadingTo 4 = .ok (.iload_n 3, 1) := by decide +kernel
theorem dX0_leadingTo_5 : decode cX0_leadingTo 5 = .ok (.bipush 25, 2) := by decide +kernel
theorem dX0_leadingTo_7 : decode cX0_leadingTo 7 = .ok (.if_icmp .ge 30, 3) := by decide +kernel
theorem dX0_leadingTo_10 : decode cX0_leadingTo 10 = .ok (.aload_n 0, 1) := by decide +kernel
theorem dX0_leadingTo_11 : decode cX0_leadingTo 11 = .ok (.getfield 15, 3) := by decide +kernel
theorem dX0_leadingTo_14 : decode cX0_leadingTo 14 = .ok (.iload_n 3, 1) := by decide +kernel
theorem dX0_leadingTo_15 : decode cX0_leadingTo 15 = .ok (.iaload, 1) := by decide +kernel
theorem dX0_leadingTo_16 : decode cX0_leadingTo 16 = .ok (.iconst 1, 1) := by decide +kernel
theorem dX0_leadingTo_17 : decode cX0_leadingTo 17 = .ok (.iload_n 3, 1) := by decide +kernel
theorem dX0_leadingTo_18 : decode cX0_leadingTo 18 = .ok (.ishl, 1) := by decide +kernel
theorem dX0_leadingTo_19 : decode cX0_leadingTo 19 = .ok (.ior, 1) := by decide +kernel
theorem dX0_leadingTo_20 : decode cX0_leadingTo 20 = .ok (.iload_n 1, 1) := by decide +kernel
theorem dX0_leadingTo_21 : decode cX0_leadingTo 21 = .ok (.iand, 1) := by decide +kernel
theorem dX0_leadingTo_22 : decode cX0_leadingTo 22 = .ok (.ifCond .eq 9, 3) := by decide +kernel
theorem dX0_leadingTo_25 : decode cX0_leadingTo 25 = .ok (.iload_n 2, 1) := by decide +kernel
theorem dX0_leadingTo_26 : decode cX0_leadingTo 26 = .ok (.iconst 1, 1) := by decide +kernel
theorem dX0_leadingTo_27 : decode cX0_leadingTo 27 = .ok (.iload_n 3, 1) := by decide +kernel
theorem dX0_leadingTo_28 : decode cX0_leadingTo 28 = .ok (.ishl, 1) := by decide +kernel
theorem dX0_leadingTo_29 : decode cX0_leadingTo 29 = .ok (.ior, 1) := by decide +kernel
theorem dX0_leadingTo_30 : decode cX0_leadingTo 30 = .ok (.istore_n 2, 1) := by decide +kernel
theorem dX0_leadingTo_31 : decode cX0_leadingTo 31 = .ok (.iinc 3 1, 3) := by decide +kernel
theorem dX0_leadingTo_34 : decode cX0_leadingTo 34 = .ok (.goto (-30), 3) := by decide +kernel
theorem dX0_leadingTo_37 : decode cX0_leadingTo 37 = .ok (.iload_n 2, 1) := by decide +kernel
theorem dX0_leadingTo_38 : decode cX0_leadingTo 38 = .ok (.ireturn, 1) := by decide +kernel
theorem dX0_findTallest_0 : decode cX0_findTallest 0 = .ok (.aload_n 0, 1) := by decide +kernel
theorem dX0_findTallest_1 : decode cX0_findTallest 1 = .ok (.getfield 18, 3) := by decide +kernel
theorem dX0_findTallest_4 : decode cX0_findTallest 4 = .ok (.iconst 1, 1) := by decide +kernel
theorem dX0_findTallest_5 : decode cX0_findTallest 5 = .ok (.invokestatic 58, 3) := by decide +kernel
theorem dX0_findTallest_8 : decode cX0_findTallest 8 = .ok (.iconst 1, 1) := by decide +kernel
theorem dX0_findTallest_9 : decode cX0_findTallest 9 = .ok (.istore_n 2, 1) := by decide +kernel
theorem dX0_findTallest_10 : decode cX0_findTallest 10 = .ok (.iconst 0, 1) := by decide +kernel
theorem dX0_findTallest_11 : decode cX0_findTallest 11 = .ok (.istore_n 3, 1) := by decide +kernel
theorem dX0_findTallest_12 : decode cX0_findTallest 12 = .ok (.iload_n 2, 1) := by decide +kernel
theorem dX0_findTallest_13 : decode cX0_findTallest 13 = .ok (.ifCond .eq 84, 3) := by decide +kernel
theorem dX0_findTallest_16 : decode cX0_findTallest 16 = .ok (.iload_n 3, 1) := by decide +kernel
theorem dX0_findTallest_17 : decode cX0_findTallest 17 = .ok (.bipush 25, 2) := by decide +kernel
theorem dX0_findTallest_19 : decode cX0_findTallest 19 = .ok (.if_icmp .gt 78, 3) := by decide +kernel
theorem dX0_findTallest_22 : decode cX0_findTallest 22 = .ok (.iconst 0, 1) := by decide +kernel
theorem dX0_findTallest_23 : decode cX0_findTallest 23 = .ok (.istore_n 2, 1) := by decide +kernel
theorem dX0_findTallest_24 : decode cX0_findTallest 24 = .ok (.iconst 0, 1) := by decide +kernel
theorem dX0_findTallest_25 : decode cX0_findTallest 25 = .ok (.istore 4, 2) := by decide +kernel
theorem dX0_findTallest_27 : decode cX0_findTallest 27 = .ok (.iload 4, 2) := by decide +kernel
theorem dX0_findTallest_29 : decode cX0_findTallest 29 = .ok (.aload_n 1, 1) := by decide +kernel
theorem dX0_findTallest_30 : decode cX0_findTallest 30 = .ok (.getfield 64, 3) := by decide +kernel
theorem dX0_findTallest_33 : decode cX0_findTallest 33 = .ok (.if_icmp .ge 58, 3) := by decide +kernel
theorem dX0_findTallest_36 : decode cX0_findTallest 36 = .ok (.aload_n 0, 1) := by decide +kernel
theorem dX0_findTallest_37 : decode cX0_findTallest 37 = .ok (.getfield 25, 3) := by decide +kernel
theorem dX0_findTallest_40 : decode cX0_findTallest 40 = .ok (.aload_n 1, 1) := by decide +kernel
theorem dX0_findTallest_41 : decode cX0_findTallest 41 = .ok (.getfield 70, 3) := by decide +kernel
theorem dX0_findTallest_44 : decode cX0_findTallest 44 = .ok (.iload 4, 2) := by decide +kernel
theorem dX0_findTallest_46 : decode cX0_findTallest 46 = .ok (.iaload, 1) := by decide +kernel
theorem dX0_findTallest_47 : decode cX0_findTallest 47 = .ok (.invokestatic 84, 3) := by decide +kernel
theorem dX0_findTallest_50 : decode cX0_findTallest 50 = .ok (.ifCond .ne 7, 3) := by decide +kernel
theorem dX0_findTallest_53 : decode cX0_findTallest 53 = .ok (.iconst 1, 1) := by decide +kernel
theorem dX0_findTallest_54 : decode cX0_findTallest 54 = .ok (.goto 4, 3) := by decide +kernel
theorem dX0_findTallest_57 : decode cX0_findTallest 57 = .ok (.iconst 0, 1) := by decide +kernel
theorem dX0_findTallest_58 : decode cX0_findTallest 58 = .ok (.istore 5, 2) := by decide +kernel
theorem dX0_findTallest_60 : decode cX0_findTallest 60 = .ok (.iload 5, 2) := by decide +kernel
theorem dX0_findTallest_62 : decode cX0_findTallest 62 = .ok (.ifCond .eq 13, 3) := by decide +kernel
theorem dX0_findTallest_65 : decode cX0_findTallest 65 = .ok (.aload_n 0, 1) := by decide +kernel
theorem dX0_findTallest_66 : decode cX0_findTallest 66 = .ok (.aload_n 1, 1) := by decide +kernel
theorem dX0_findTallest_67 : decode cX0_findTallest 67 = .ok (.iload 4, 2) := by decide +kernel
theorem dX0_findTallest_69 : decode cX0_findTallest 69 = .ok (.invokevirtual 95, 3) := by decide +kernel
theorem dX0_findTallest_72 : decode cX0_findTallest 72 = .ok (.ifCond .ne 7, 3) := by decide +kernel
theorem dX0_findTallest_75 : decode cX0_findTallest 75 = .ok (.iload_n 2, 1) := by decide +kernel
theorem dX0_findTallest_76 : decode cX0_findTallest 76 = .ok (.ifCond .eq 7, 3) := by decide +kernel
theorem dX0_findTallest_79 : decode cX0_findTallest 79 = .ok (.iconst 1, 1) := by decide +kernel
theorem dX0_findTallest_80 : decode cX0_findTallest 80 = .ok (.goto 4, 3) := by decide +kernel
theorem dX0_findTallest_83 : decode cX0_findTallest 83 = .ok (.iconst 0, 1) := by decide +kernel
theorem dX0_findTallest_84 : decode cX0_findTallest 84 = .ok (.istore_n 2, 1) := by decide +kernel
theorem dX0_findTallest_85 : decode cX0_findTallest 85 = .ok (.iinc 4 1, 3) := by decide +kernel
theorem dX0_findTallest_88 : decode cX0_findTallest 88 = .ok (.goto (-61), 3) := by decide +kernel
theorem dX0_findTallest_91 : decode cX0_findTallest 91 = .ok (.iinc 3 1, 3) := by decide +kernel
theorem dX0_findTallest_94 : decode cX0_findTallest 94 = .ok (.goto (-82), 3) := by decide +kernel
theorem dX0_findTallest_97 : decode cX0_findTallest 97 = .ok (.return_, 1) := by decide +kernel
theorem dX0_raiseBy_0 : decode cX0_raiseBy 0 = .ok (.aload_n 1, 1) := by decide +kernel
theorem dX0_raiseBy_1 : decode cX0_raiseBy 1 = .ok (.getfield 67, 3) := by decide +kernel
theorem dX0_raiseBy_4 : decode cX0_raiseBy 4 = .ok (.iload_n 2, 1) := by decide +kernel
theorem dX0_raiseBy_5 : decode cX0_raiseBy 5 = .ok (.iaload, 1) := by decide +kernel
theorem dX0_raiseBy_6 : decode cX0_raiseBy 6 = .ok (.iconst (-1), 1) := by decide +kernel
theorem dX0_raiseBy_7 : decode cX0_raiseBy 7 = .ok (.if_icmp .ne 5, 3) := by decide +kernel
theorem dX0_raiseBy_10 : decode cX0_raiseBy 10 = .ok (.iconst 0, 1) := by decide +kernel
theorem dX0_raiseBy_11 : decode cX0_raiseBy 11 = .ok (.ireturn, 1) := by decide +kernel
theorem dX0_raiseBy_12 : decode cX0_raiseBy 12 = .ok (.aload_n 1, 1) := by decide +kernel
theorem dX0_raiseBy_13 : decode cX0_raiseBy 13 = .ok (.getfield 88, 3) := by decide +kernel
theorem dX0_raiseBy_16 : decode cX0_raiseBy 16 = .ok (.iload_n 2, 1) := by decide +kernel
theorem dX0_raiseBy_17 : decode cX0_raiseBy 17 = .ok (.iaload, 1) := by decide +kernel
theorem dX0_raiseBy_18 : decode cX0_raiseBy 18 = .ok (.iconst (-1), 1) := by decide +kernel
theorem dX0_raiseBy_19 : decode cX0_raiseBy 19 = .ok (.if_icmp .ne 7, 3) := by decide +kernel
theorem dX0_raiseBy_22 : decode cX0_raiseBy 22 = .ok (.iconst 0, 1) := by decide +kernel
theorem dX0_raiseBy_23 : decode cX0_raiseBy 23 = .ok (.goto 4, 3) := by decide +kernel
theorem dX0_raiseBy_26 : decode cX0_raiseBy 26 = .ok (.iconst 1, 1) := by decide +kernel
theorem dX0_raiseBy_27 : decode cX0_raiseBy 27 = .ok (.istore_n 3, 1) := by decide +kernel
theorem dX0_raiseBy_28 : decode cX0_raiseBy 28 = .ok (.aload_n 0, 1) := by decide +kernel
theorem dX0_raiseBy_29 : decode cX0_raiseBy 29 = .ok (.getfield 18, 3) := by decide +kernel
theorem dX0_raiseBy_32 : decode cX0_raiseBy 32 = .ok (.aload_n 1, 1) := by decide +kernel
theorem dX0_raiseBy_33 : decode cX0_raiseBy 33 = .ok (.getfield 73, 3) := by decide +kernel
theorem dX0_raiseBy_36 : decode cX0_raiseBy 36 = .ok (.iload_n 2, 1) := by decide +kernel
theorem dX0_raiseBy_37 : decode cX0_raiseBy 37 = .ok (.iaload, 1) := by decide +kernel
theorem dX0_raiseBy_38 : decode cX0_raiseBy 38 = .ok (.aload_n 1, 1) := by decide +kernel
theorem dX0_raiseBy_39 : decode cX0_raiseBy 39 = .ok (.getfield 67, 3) := by decide +kernel
theorem dX0_raiseBy_42 : decode cX0_raiseBy 42 = .ok (.iload_n 2, 1) := by decide +kernel
theorem dX0_raiseBy_43 : decode cX0_raiseBy 43 = .ok (.iaload, 1) := by decide +kernel
theorem dX0_raiseBy_44 : decode cX0_raiseBy 44 = .ok (.invokestatic 76, 3) := by decide +kernel
theorem dX0_raiseBy_47 : decode cX0_raiseBy 47 = .ok (.iaload, 1) := by decide +kernel
theorem dX0_raiseBy_48 : decode cX0_raiseBy 48 = .ok (.iload_n 3, 1) := by decide +kernel
theorem dX0_raiseBy_49 : decode cX0_raiseBy 49 = .ok (.iadd, 1) := by decide +kernel
theorem dX0_raiseBy_50 : decode cX0_raiseBy 50 = .ok (.istore 4, 2) := by decide +kernel
theorem dX0_raiseBy_52 : decode cX0_raiseBy 52 = .ok (.aload_n 0, 1) := by decide +kernel
theorem dX0_raiseBy_53 : decode cX0_raiseBy 53 = .ok (.aload_n 1, 1) := by decide +kernel
theorem dX0_raiseBy_54 : decode cX0_raiseBy 54 = .ok (.iload_n 2, 1) := by decide +kernel
theorem dX0_raiseBy_55 : decode cX0_raiseBy 55 = .ok (.invokevirtual 80, 3) := by decide +kernel
theorem dX0_raiseBy_58 : decode cX0_raiseBy 58 = .ok (.istore 5, 2) := by decide +kernel
theorem dX0_raiseBy_60 : decode cX0_raiseBy 60 = .ok (.iconst 0, 1) := by decide +kernel
theorem dX0_raiseBy_61 : decode cX0_raiseBy 61 = .ok (.istore 6, 2) := by decide +kernel
theorem dX0_raiseBy_63 : decode cX0_raiseBy 63 = .ok (.iload 6, 2) := by decide +kernel
theorem dX0_raiseBy_65 : decode cX0_raiseBy 65 = .ok (.bipush 25, 2) := by decide +kernel
theorem dX0_raiseBy_67 : decode cX0_raiseBy 67 = .ok (.if_icmp .ge 33, 3) := by decide +kernel
theorem dX0_raiseBy_70 : decode cX0_raiseBy 70 = .ok (.iload 5, 2) := by decide +kernel
theorem dX0_raiseBy_72 : decode cX0_raiseBy 72 = .ok (.iload 6, 2) := by decide +kernel
theorem dX0_raiseBy_74 : decode cX0_raiseBy 74 = .ok (.invokestatic 84, 3) := by decide +kernel
theorem dX0_raiseBy_77 : decode cX0_raiseBy 77 = .ok (.ifCond .eq 17, 3) := by decide +kernel
theorem dX0_raiseBy_80 : decode cX0_raiseBy 80 = .ok (.iload 4, 2) := by decide +kernel
theorem dX0_raiseBy_82 : decode cX0_raiseBy 82 = .ok (.aload_n 0, 1) := by decide +kernel
theorem dX0_raiseBy_83 : decode cX0_raiseBy 83 = .ok (.getfield 18, 3) := by decide +kernel
theorem dX0_raiseBy_86 : decode cX0_raiseBy 86 = .ok (.iload 6, 2) := by decide +kernel
theorem dX0_raiseBy_88 : decode cX0_raiseBy 88 = .ok (.iaload, 1) := by decide +kernel
theorem dX0_raiseBy_89 : decode cX0_raiseBy 89 = .ok (.invokestatic 99, 3) := by decide +kernel
theorem dX0_raiseBy_92 : decode cX0_raiseBy 92 = .ok (.istore 4, 2) := by decide +kernel
theorem dX0_raiseBy_94 : decode cX0_raiseBy 94 = .ok (.iinc 6 1, 3) := by decide +kernel
theorem dX0_raiseBy_97 : decode cX0_raiseBy 97 = .ok (.goto (-34), 3) := by decide +kernel
theorem dX0_raiseBy_100 : decode cX0_raiseBy 100 = .ok (.iload 4, 2) := by decide +kernel
theorem dX0_raiseBy_102 : decode cX0_raiseBy 102 = .ok (.aload_n 0, 1) := by decide +kernel
theorem dX0_raiseBy_103 : decode cX0_raiseBy 103 = .ok (.getfield 18, 3) := by decide +kernel
theorem dX0_raiseBy_106 : decode cX0_raiseBy 106 = .ok (.aload_n 1, 1) := by decide +kernel
theorem dX0_raiseBy_107 : decode cX0_raiseBy 107 = .ok (.getfield 70, 3) := by decide +kernel
theorem dX0_raiseBy_110 : decode cX0_raiseBy 110 = .ok (.iload_n 2, 1) := by decide +kernel
theorem dX0_raiseBy_111 : decode cX0_raiseBy 111 = .ok (.iaload, 1) := by decide +kernel
theorem dX0_raiseBy_112 : decode cX0_raiseBy 112 = .ok (.iaload, 1) := by decide +kernel
theorem dX0_raiseBy_113 : decode cX0_raiseBy 113 = .ok (.if_icmp .gt 5, 3) := by decide +kernel
theorem dX0_raiseBy_116 : decode cX0_raiseBy 116 = .ok (.iconst 0, 1) := by decide +kernel
theorem dX0_raiseBy_117 : decode cX0_raiseBy 117 = .ok (.ireturn, 1) := by decide +kernel
theorem dX0_raiseBy_118 : decode cX0_raiseBy 118 = .ok (.aload_n 0, 1) := by decide +kernel
theorem dX0_raiseBy_119 : decode cX0_raiseBy 119 = .ok (.getfield 18, 3) := by decide +kernel
theorem dX0_raiseBy_122 : decode cX0_raiseBy 122 = .ok (.aload_n 1, 1) := by decide +kernel
theorem dX0_raiseBy_123 : decode cX0_raiseBy 123 = .ok (.getfield 70, 3) := by decide +kernel
theorem dX0_raiseBy_126 : decode cX0_raiseBy 126 = .ok (.iload_n 2, 1) := by decide +kernel
theorem dX0_raiseBy_127 : decode cX0_raiseBy 127 = .ok (.iaload, 1) := by decide +kernel
theorem dX0_raiseBy_128 : decode cX0_raiseBy 128 = .ok (.iload 4, 2) := by decide +kernel
theorem dX0_raiseBy_130 : decode cX0_raiseBy 130 = .ok (.iastore, 1) := by decide +kernel
theorem dX0_raiseBy_131 : decode cX0_raiseBy 131 = .ok (.iconst 1, 1) := by decide +kernel
theorem dX0_raiseBy_132 : decode cX0_raiseBy 132 = .ok (.ireturn, 1) := by decide +kernel
theorem dX0_goOnFrom_0 : decode cX0_goOnFrom 0 = .ok (.iconst 1, 1) := by decide +kernel
theorem dX0_goOnFrom_1 : decode cX0_goOnFrom 1 = .ok (.aload_n 1, 1) := by decide +kernel
theorem dX0_goOnFrom_2 : decode cX0_goOnFrom 2 = .ok (.getfield 104, 3) := by decide +kernel
theorem dX0_goOnFrom_5 : decode cX0_goOnFrom 5 = .ok (.ishl, 1) := by decide +kernel
theorem dX0_goOnFrom_6 : decode cX0_goOnFrom 6 = .ok (.istore_n 2, 1) := by decide +kernel
theorem dX0_goOnFrom_7 : decode cX0_goOnFrom 7 = .ok (.aload_n 1, 1) := by decide +kernel
theorem dX0_goOnFrom_8 : decode cX0_goOnFrom 8 = .ok (.getfield 109, 3) := by decide +kernel
theorem dX0_goOnFrom_11 : decode cX0_goOnFrom 11 = .ok (.iconst 1, 1) := by decide +kernel
theorem dX0_goOnFrom_12 : decode cX0_goOnFrom 12 = .ok (.isub, 1) := by decide +kernel
theorem dX0_goOnFrom_13 : decode cX0_goOnFrom 13 = .ok (.istore_n 3, 1) := by decide +kernel
theorem dX0_goOnFrom_14 : decode cX0_goOnFrom 14 = .ok (.iload_n 3, 1) := by decide +kernel
theorem dX0_goOnFrom_15 : decode cX0_goOnFrom 15 = .ok (.ifCond .lt 42, 3) := by decide +kernel
theorem dX0_goOnFrom_18 : decode cX0_goOnFrom 18 = .ok (.aload_n 0, 1) := by decide +kernel
theorem dX0_goOnFrom_19 : decode cX0_goOnFrom 19 = .ok (.iload_n 2, 1) := by decide +kernel
theorem dX0_goOnFrom_20 : decode cX0_goOnFrom 20 = .ok (.aload_n 1, 1) := by decide +kernel
theorem dX0_goOnFrom_21 : decode cX0_goOnFrom 21 = .ok (.getfield 112, 3) := by decide +kernel
theorem dX0_goOnFrom_24 : decode cX0_goOnFrom 24 = .ok (.iload_n 3, 1) := by decide +kernel
theorem dX0_goOnFrom_25 : decode cX0_goOnFrom 25 = .ok (.iaload, 1) := by decide +kernel
theorem dX0_goOnFrom_26 : decode cX0_goOnFrom 26 = .ok (.invokevirtual 115, 3) := by decide +kernel
theorem dX0_goOnFrom_29 : decode cX0_goOnFrom 29 = .ok (.aload_n 0, 1) := by decide +kernel
theorem dX0_goOnFrom_30 : decode cX0_goOnFrom 30 = .ok (.getfield 21, 3) := by decide +kernel
theorem dX0_goOnFrom_33 : decode cX0_goOnFrom 33 = .ok (.iand, 1) := by decide +kernel
theorem dX0_goOnFrom_34 : decode cX0_goOnFrom 34 = .ok (.ifCond .eq 5, 3) := by decide +kernel
theorem dX0_goOnFrom_37 : decode cX0_goOnFrom 37 = .ok (.iconst 1, 1) := by decide +kernel
theorem dX0_goOnFrom_38 : decode cX0_goOnFrom 38 = .ok (.ireturn, 1) := by decide +kernel
theorem dX0_goOnFrom_39 : decode cX0_goOnFrom 39 = .ok (.aload_n 0, 1) := by decide +kernel
theorem dX0_goOnFrom_40 : decode cX0_goOnFrom 40 = .ok (.iload_n 2, 1) := by decide +kernel
theorem dX0_goOnFrom_41 : decode cX0_goOnFrom 41 = .ok (.aload_n 1, 1) := by decide +kernel
theorem dX0_goOnFrom_42 : decode cX0_goOnFrom 42 = .ok (.getfield 112, 3) := by decide +kernel
theorem dX0_goOnFrom_45 : decode cX0_goOnFrom 45 = .ok (.iload_n 3, 1) := by decide +kernel
theorem dX0_goOnFrom_46 : decode cX0_goOnFrom 46 = .ok (.iaload, 1) := by decide +kernel
theorem dX0_goOnFrom_47 : decode cX0_goOnFrom 47 = .ok (.invokevirtual 118, 3) := by decide +kernel
theorem dX0_goOnFrom_50 : decode cX0_goOnFrom 50 = .ok (.istore_n 2, 1) := by decide +kernel
theorem dX0_goOnFrom_51 : decode cX0_goOnFrom 51 = .ok (.iinc 3 (-1), 3) := by decide +kernel
theorem dX0_goOnFrom_54 : decode cX0_goOnFrom 54 = .ok (.goto (-40), 3) := by decide +kernel
theorem dX0_goOnFrom_57 : decode cX0_goOnFrom 57 = .ok (.iconst 0, 1) := by decide +kernel
theorem dX0_goOnFrom_58 : decode cX0_goOnFrom 58 = .ok (.ireturn, 1) := by decide +kernel
theorem dX0_topFrom_0 : decode cX0_topFrom 0 = .ok (.aload_n 1, 1) := by decide +kernel
theorem dX0_topFrom_1 : decode cX0_topFrom 1 = .ok (.getfield 109, 3) := by decide +kernel
theorem dX0_topFrom_4 : decode cX0_topFrom 4 = .ok (.istore_n 2, 1) := by decide +kernel
theorem dX0_topFrom_5 : decode cX0_topFrom 5 = .ok (.iconst 1, 1) := by decide +kernel
theorem dX0_topFrom_6 : decode cX0_topFrom 6 = .ok (.aload_n 1, 1) := by decide +kernel
theorem dX0_topFrom_7 : decode cX0_topFrom 7 = .ok (.getfield 104, 3) := by decide +kernel
theorem dX0_topFrom_10 : decode cX0_topFrom 10 = .ok (.ishl, 1) := by decide +kernel
theorem dX0_topFrom_11 : decode cX0_topFrom 11 = .ok (.istore_n 3, 1) := by decide +kernel
theorem dX0_topFrom_12 : decode cX0_topFrom 12 = .ok (.aload_n 1, 1) := by decide +kernel
theorem dX0_topFrom_13 : decode cX0_topFrom 13 = .ok (.getfield 109, 3) := by decide +kernel
theorem dX0_topFrom_16 : decode cX0_topFrom 16 = .ok (.iconst 1, 1) := by decide +kernel
theorem dX0_topFrom_17 : decode cX0_topFrom 17 = .ok (.isub, 1) := by decide +kernel
theorem dX0_topFrom_18 : decode cX0_topFrom 18 = .ok (.istore 4, 2) := by decide +kernel
theorem dX0_topFrom_20 : decode cX0_topFrom 20 = .ok (.iload 4, 2) := by decide +kernel
theorem dX0_topFrom_22 : decode cX0_topFrom 22 = .ok (.ifCond .lt 89, 3) := by decide +kernel
theorem dX0_topFrom_25 : decode cX0_topFrom 25 = .ok (.aload_n 0, 1) := by decide +kernel
theorem dX0_topFrom_26 : decode cX0_topFrom 26 = .ok (.iload_n 3, 1) := by decide +kernel
theorem dX0_topFrom_27 : decode cX0_topFrom 27 = .ok (.aload_n 1, 1) := by decide +kernel
theorem dX0_topFrom_28 : decode cX0_topFrom 28 = .ok (.getfield 112, 3) := by decide +kernel
theorem dX0_topFrom_31 : decode cX0_topFrom 31 = .ok (.iload 4, 2) := by decide +kernel
theorem dX0_topFrom_33 : decode cX0_topFrom 33 = .ok (.iaload, 1) := by decide +kernel
theorem dX0_topFrom_34 : decode cX0_topFrom 34 = .ok (.invokevirtual 115, 3) := by decide +kernel
theorem dX0_topFrom_37 : decode cX0_topFrom 37 = .ok (.istore 5, 2) := by decide +kernel
theorem dX0_topFrom_39 : decode cX0_topFrom 39 = .ok (.iload 5, 2) := by decide +kernel
theorem dX0_topFrom_41 : decode cX0_topFrom 41 = .ok (.aload_n 0, 1) := by decide +kernel
theorem dX0_topFrom_42 : decode cX0_topFrom 42 = .ok (.getfield 25, 3) := by decide +kernel
theorem dX0_topFrom_45 : decode cX0_topFrom 45 = .ok (.iand, 1) := by decide +kernel
theorem dX0_topFrom_46 : decode cX0_topFrom 46 = .ok (.ifCond .eq 5, 3) := by decide +kernel
theorem dX0_topFrom_49 : decode cX0_topFrom 49 = .ok (.iconst (-1), 1) := by decide +kernel
theorem dX0_topFrom_50 : decode cX0_topFrom 50 = .ok (.ireturn, 1) := by decide +kernel
theorem dX0_topFrom_51 : decode cX0_topFrom 51 = .ok (.iconst 0, 1) := by decide +kernel
theorem dX0_topFrom_52 : decode cX0_topFrom 52 = .ok (.istore 6, 2) := by decide +kernel
theorem dX0_topFrom_54 : decode cX0_topFrom 54 = .ok (.iload 6, 2) := by decide +kernel
theorem dX0_topFrom_56 : decode cX0_topFrom 56 = .ok (.bipush 25, 2) := by decide +kernel
theorem dX0_topFrom_58 : decode cX0_topFrom 58 = .ok (.if_icmp .ge 34, 3) := by decide +kernel
theorem dX0_topFrom_61 : decode cX0_topFrom 61 = .ok (.iload 5, 2) := by decide +kernel
theorem dX0_topFrom_63 : decode cX0_topFrom 63 = .ok (.iload 6, 2) := by decide +kernel
theorem dX0_topFrom_65 : decode cX0_topFrom 65 = .ok (.invokestatic 84, 3) := by decide +kernel
theorem dX0_topFrom_68 : decode cX0_topFrom 68 = .ok (.ifCond .eq 18, 3) := by decide +kernel
theorem dX0_topFrom_71 : decode cX0_topFrom 71 = .ok (.iload_n 2, 1) := by decide +kernel
theorem dX0_topFrom_72 : decode cX0_topFrom 72 = .ok (.iload 4, 2) := by decide +kernel
theorem dX0_topFrom_74 : decode cX0_topFrom 74 = .ok (.aload_n 0, 1) := by decide +kernel
theorem dX0_topFrom_75 : decode cX0_topFrom 75 = .ok (.getfield 18, 3) := by decide +kernel
theorem dX0_topFrom_78 : decode cX0_topFrom 78 = .ok (.iload 6, 2) := by decide +kernel
theorem dX0_topFrom_80 : decode cX0_topFrom 80 = .ok (.iaload, 1) := by decide +kernel
theorem dX0_topFrom_81 : decode cX0_topFrom 81 = .ok (.iadd, 1) := by decide +kernel
theorem dX0_topFrom_82 : decode cX0_topFrom 82 = .ok (.invokestatic 99, 3) := by decide +kernel
theorem dX0_topFrom_85 : decode cX0_topFrom 85 = .ok (.istore_n 2, 1) := by decide +kernel
theorem dX0_topFrom_86 : decode cX0_topFrom 86 = .ok (.iinc 6 1, 3) := by decide +kernel
theorem dX0_topFrom_89 : decode cX0_topFrom 89 = .ok (.goto (-35), 3) := by decide +kernel
theorem dX0_topFrom_92 : decode cX0_topFrom 92 = .ok (.aload_n 0, 1) := by decide +kernel
theorem dX0_topFrom_93 : decode cX0_topFrom 93 = .ok (.iload_n 3, 1) := by decide +kernel
theorem dX0_topFrom_94 : decode cX0_topFrom 94 = .ok (.aload_n 1, 1) := by decide +kernel
theorem dX0_topFrom_95 : decode cX0_topFrom 95 = .ok (.getfield 112, 3) := by decide +kernel
theorem dX0_topFrom_98 : decode cX0_topFrom 98 = .ok (.iload 4, 2) := by decide +kernel
theorem dX0_topFrom_100 : decode cX0_topFrom 100 = .ok (.iaload, 1) := by decide +kernel
theorem dX0_topFrom_101 : decode cX0_topFrom 101 = .ok (.invokevirtual 118, 3) := by decide +kernel
theorem dX0_topFrom_104 : decode cX0_topFrom 104 = .ok (.istore_n 3, 1) := by decide +kernel
theorem dX0_topFrom_105 : decode cX0_topFrom 105 = .ok (.iinc 4 (-1), 3) := by decide +kernel
theorem dX0_topFrom_108 : decode cX0_topFrom 108 = .ok (.goto (-88), 3) := by decide +kernel
theorem dX0_topFrom_111 : decode cX0_topFrom 111 = .ok (.iload_n 2, 1) := by decide +kernel
theorem dX0_topFrom_112 : decode cX0_topFrom 112 = .ok (.ireturn, 1) := by decide +kernel
theorem dX0_headsOf_0 : decode cX0_headsOf 0 = .ok (.iconst 0, 1) := by decide +kernel
theorem dX0_headsOf_1 : decode cX0_headsOf 1 = .ok (.istore_n 3, 1) := by decide +kernel
theorem dX0_headsOf_2 : decode cX0_headsOf 2 = .ok (.iconst 0, 1) := by decide +kernel
theorem dX0_headsOf_3 : decode cX0_headsOf 3 = .ok (.istore 4, 2) := by decide +kernel
theorem dX0_headsOf_5 : decode cX0_headsOf 5 = .ok (.iload 4, 2) := by decide +kernel
theorem dX0_headsOf_7 : decode cX0_headsOf 7 = .ok (.iconst 5, 1) := by decide +kernel
theorem dX0_headsOf_8 : decode cX0_headsOf 8 = .ok (.if_icmp .ge 29, 3) := by decide +kernel
theorem dX0_headsOf_11 : decode cX0_headsOf 11 = .ok (.iload_n 1, 1) := by decide +kernel
theorem dX0_headsOf_12 : decode cX0_headsOf 12 = .ok (.iload 4, 2) := by decide +kernel
theorem dX0_headsOf_14 : decode cX0_headsOf 14 = .ok (.invokestatic 84, 3) := by decide +kernel
theorem dX0_headsOf_17 : decode cX0_headsOf 17 = .ok (.ifCond .eq 14, 3) := by decide +kernel
theorem dX0_headsOf_20 : decode cX0_headsOf 20 = .ok (.iload_n 3, 1) := by decide +kernel
theorem dX0_headsOf_21 : decode cX0_headsOf 21 = .ok (.iconst 1, 1) := by decide +kernel
theorem dX0_headsOf_22 : decode cX0_headsOf 22 = .ok (.iload 4, 2) := by decide +kernel
theorem dX0_headsOf_24 : decode cX0_headsOf 24 = .ok (.iload_n 2, 1) := by decide +kernel
theorem dX0_headsOf_25 : decode cX0_headsOf 25 = .ok (.invokestatic 76, 3) := by decide +kernel
theorem dX0_headsOf_28 : decode cX0_headsOf 28 = .ok (.ishl, 1) := by decide +kernel
theorem dX0_headsOf_29 : decode cX0_headsOf 29 = .ok (.ior, 1) := by decide +kernel
theorem dX0_headsOf_30 : decode cX0_headsOf 30 = .ok (.istore_n 3, 1) := by decide +kernel
theorem dX0_headsOf_31 : decode cX0_headsOf 31 = .ok (.iinc 4 1, 3) := by decide +kernel
theorem dX0_headsOf_34 : decode cX0_headsOf 34 = .ok (.goto (-29), 3) := by decide +kernel
theorem dX0_headsOf_37 : decode cX0_headsOf 37 = .ok (.iload_n 3, 1) := by decide +kernel
theorem dX0_headsOf_38 : decode cX0_headsOf 38 = .ok (.ireturn, 1) := by decide +kernel
theorem dX0_allExits_0 : decode cX0_allExits 0 = .ok (.iconst 0, 1) := by decide +kernel
theorem dX0_allExits_1 : decode cX0_allExits 1 = .ok (.istore_n 3, 1) := by decide +kernel
theorem dX0_allExits_2 : decode cX0_allExits 2 = .ok (.iconst 0, 1) := by decide +kernel
theorem dX0_allExits_3 : decode cX0_allExits 3 = .ok (.istore 4, 2) := by decide +kernel
theorem dX0_allExits_5 : decode cX0_allExits 5 = .ok (.iload 4, 2) := by decide +kernel
theorem dX0_allExits_7 : decode cX0_allExits 7 = .ok (.iconst 5, 1) := by decide +kernel
theorem dX0_allExits_8 : decode cX0_allExits 8 = .ok (.if_icmp .ge 32, 3) := by decide +kernel
theorem dX0_allExits_11 : decode cX0_allExits 11 = .ok (.iload_n 1, 1) := by decide +kernel
theorem dX0_allExits_12 : decode cX0_allExits 12 = .ok (.iload 4, 2) := by decide +kernel
theorem dX0_allExits_14 : decode cX0_allExits 14 = .ok (.invokestatic 84, 3) := by decide +kernel
theorem dX0_allExits_17 : decode cX0_allExits 17 = .ok (.ifCond .eq 17, 3) := by decide +kernel
theorem dX0_allExits_20 : decode cX0_allExits 20 = .ok (.iload_n 3, 1) := by decide +kernel
theorem dX0_allExits_21 : decode cX0_allExits 21 = .ok (.aload_n 0, 1) := by decide +kernel
theorem dX0_allExits_22 : decode cX0_allExits 22 = .ok (.getfield 9, 3) := by decide +kernel
theorem dX0_allExits_25 : decode cX0_allExits 25 = .ok (.iload 4, 2) := by decide +kernel
theorem dX0_allExits_27 : decode cX0_allExits 27 = .ok (.iload_n 2, 1) := by decide +kernel
theorem dX0_allExits_28 : decode cX0_allExits 28 = .ok (.invokestatic 76, 3) := by decide +kernel
theorem dX0_allExits_31 : decode cX0_allExits 31 = .ok (.iaload, 1) := by decide +kernel
theorem dX0_allExits_32 : decode cX0_allExits 32 = .ok (.ior, 1) := by decide +kernel
theorem dX0_allExits_33 : decode cX0_allExits 33 = .ok (.istore_n 3, 1) := by decide +kernel
theorem dX0_allExits_34 : decode cX0_allExits 34 = .ok (.iinc 4 1, 3) := by decide +kernel
theorem dX0_allExits_37 : decode cX0_allExits 37 = .ok (.goto (-32), 3) := by decide +kernel
theorem dX0_allExits_40 : decode cX0_allExits 40 = .ok (.iload_n 3, 1) := by decide +kernel
theorem dX0_allExits_41 : decode cX0_allExits 41 = .ok (.ireturn, 1) := by decide +kernel
end
section
theorem dX1_init_0 : decode cX1_init 0 = .ok (.aload_n 0, 1) := by decide +kernel
theorem dX1_init_1 : decode cX1_init 1 = .ok (.invokespecial 3, 3) := by decide +kernel
theorem dX1_init_4 : decode cX1_init 4 = .ok (.aload_n 0, 1) := by decide +kernel
theorem dX1_init_5 : decode cX1_init 5 = .ok (.sipush 671, 3) := by decide +kernel
theorem dX1_init_8 : decode cX1_init 8 = .ok (.newarray .long, 2) := by decide +kernel
theorem dX1_init_10 : decode cX1_init 10 = .ok (.putfield 9, 3) := by decide +kernel
theorem dX1_init_13 : decode cX1_init 13 = .ok (.return_, 1) := by decide +kernel
theorem dX1_start_0 : decode cX1_start 0 = .ok (.iconst 0, 1) := by decide +kernel
theorem dX1_start_1 : decode cX1_start 1 = .ok (.istore_n 2, 1) := by decide +kernel
theorem dX1_start_2 : decode cX1_start 2 = .ok (.iload_n 2, 1) := by decide +kernel
theorem dX1_start_3 : decode cX1_start 3 = .ok (.bipush 11, 2) := by decide +kernel
theorem dX1_start_5 : decode cX1_start 5 = .ok (.if_icmp .ge 30, 3) := by decide +kernel
theorem dX1_start_8 : decode cX1_start 8 = .ok (.aload_n 0, 1) := by decide +kernel
theorem dX1_start_9 : decode cX1_start 9 = .ok (.getfield 9, 3) := by decide +kernel
theorem dX1_start_12 : decode cX1_start 12 = .ok (.iload_n 2, 1) := by decide +kernel
theorem dX1_start_13 : decode cX1_start 13 = .ok (.aload_n 1, 1) := by decide +kernel
theorem dX1_start_14 : decode cX1_start 14 = .ok (.iload_n 2, 1) := by decide +kernel
theorem dX1_start_15 : decode cX1_start 15 = .ok (.invokevirtual 15, 3) := by decide +kernel
theorem dX1_start_18 : decode cX1_start 18 = .ok (.ifCond .eq 7, 3) := by decide +kernel
theorem dX1_start_21 : decode cX1_start 21 = .ok (.lconst 0, 1) := by decide +kernel
theorem dX1_start_22 : decode cX1_start 22 = .ok (.goto 6, 3) := by decide +kernel
theorem dX1_start_25 : decode cX1_start 25 = .ok (.ldc2_w 21, 3) := by decide +kernel
theorem dX1_start_28 : decode cX1_start 28 = .ok (.lastore, 1) := by decide +kernel
theorem dX1_start_29 : decode cX1_start 29 = .ok (.iinc 2 1, 3) := by decide +kernel
theorem dX1_start_32 : decode cX1_start 32 = .ok (.goto (-30), 3) := by decide +kernel
theorem dX1_start_35 : decode cX1_start 35 = .ok (.return_, 1) := by decide +kernel
theorem dX1_build_0 : decode cX1_build 0 = .ok (.iload_n 3, 1) := by decide +kernel
theorem dX1_build_1 : decode cX1_build 1 = .ok (.istore 4, 2) := by decide +kernel
theorem dX1_build_3 : decode cX1_build 3 = .ok (.iload 4, 2) := by decide +kernel
theorem dX1_build_5 : decode cX1_build 5 = .ok (.aload_n 2, 1) := by decide +kernel
theorem dX1_build_6 : decode cX1_build 6 = .ok (.getfield 23, 3) := by decide +kernel
theorem dX1_build_9 : decode cX1_build 9 = .ok (.if_icmp .ge 56, 3) := by decide +kernel
theorem dX1_build_12 : decode cX1_build 12 = .ok (.iconst 0, 1) := by decide +kernel
theorem dX1_build_13 : decode cX1_build 13 = .ok (.istore 5, 2) := by decide +kernel
theorem dX1_build_15 : decode cX1_build 15 = .ok (.iload 5, 2) := by decide +kernel
theorem dX1_build_17 : decode cX1_build 17 = .ok (.bipush 11, 2) := by decide +kernel
theorem dX1_build_19 : decode cX1_build 19 = .ok (.if_icmp .ge 40, 3) := by decide +kernel
theorem dX1_build_22 : decode cX1_build 22 = .ok (.aload_n 0, 1) := by decide +kernel
theorem dX1_build_23 : decode cX1_build 23 = .ok (.getfield 9, 3) := by decide +kernel
theorem dX1_build_26 : decode cX1_build 26 = .ok (.iload 4, 2) := by decide +kernel
theorem dX1_build_28 : decode cX1_build 28 = .ok (.iconst 1, 1) := by decide +kernel
theorem dX1_build_29 : decode cX1_build 29 = .ok (.iadd, 1) := by decide +kernel
theorem dX1_build_30 : decode cX1_build 30 = .ok (.bipush 11, 2) := by decide +kernel
theorem dX1_build_32 : decode cX1_build 32 = .ok (.imul, 1) := by decide +kernel
theorem dX1_build_33 : decode cX1_build 33 = .ok (.iload 5, 2) := by decide +kernel
theorem dX1_build_35 : decode cX1_build 35 = .ok (.iadd, 1) := by decide +kernel
theorem dX1_build_36 : decode cX1_build 36 = .ok (.aload_n 0, 1) := by decide +kernel
theorem dX1_build_37 : decode cX1_build 37 = .ok (.aload_n 1, 1) := by decide +kernel
theorem dX1_build_38 : decode cX1_build 38 = .ok (.iload 5, 2) := by decide +kernel
theorem dX1_build_40 : decode cX1_build 40 = .ok (.aload_n 2, 1) := by decide +kernel
theorem dX1_build_41 : decode cX1_build 41 = .ok (.getfield 29, 3) := by decide +kernel
theorem dX1_build_44 : decode cX1_build 44 = .ok (.iload 4, 2) := by decide +kernel
theorem dX1_build_46 : decode cX1_build 46 = .ok (.iaload, 1) := by decide +kernel
theorem dX1_build_47 : decode cX1_build 47 = .ok (.iload 4, 2) := by decide +kernel
theorem dX1_build_49 : decode cX1_build 49 = .ok (.invokevirtual 33, 3) := by decide +kernel
theorem dX1_build_52 : decode cX1_build 52 = .ok (.lastore, 1) := by decide +kernel
theorem dX1_build_53 : decode cX1_build 53 = .ok (.iinc 5 1, 3) := by decide +kernel
theorem dX1_build_56 : decode cX1_build 56 = .ok (.goto (-41), 3) := by decide +kernel
theorem dX1_build_59 : decode cX1_build 59 = .ok (.iinc 4 1, 3) := by decide +kernel
theorem dX1_build_62 : decode cX1_build 62 = .ok (.goto (-59), 3) := by decide +kernel
theorem dX1_build_65 : decode cX1_build 65 = .ok (.return_, 1) := by decide +kernel
theorem dX1_across_0 : decode cX1_across 0 = .ok (.ldc2_w 21, 3) := by decide +kernel
theorem dX1_across_3 : decode cX1_across 3 = .ok (.lstore 5, 2) := by decide +kernel
theorem dX1_across_5 : decode cX1_across 5 = .ok (.iconst 0, 1) := by decide +kernel
theorem dX1_across_6 : decode cX1_across 6 = .ok (.istore 7, 2) := by decide +kernel
theorem dX1_across_8 : decode cX1_across 8 = .ok (.iload 7, 2) := by decide +kernel
theorem dX1_across_10 : decode cX1_across 10 = .ok (.bipush 11, 2) := by decide +kernel
theorem dX1_across_12 : decode cX1_across 12 = .ok (.if_icmp .ge 52, 3) := by decide +kernel
theorem dX1_across_15 : decode cX1_across 15 = .ok (.aload_n 0, 1) := by decide +kernel
theorem dX1_across_16 : decode cX1_across 16 = .ok (.getfield 9, 3) := by decide +kernel
theorem dX1_across_19 : decode cX1_across 19 = .ok (.iload 4, 2) := by decide +kernel
theorem dX1_across_21 : decode cX1_across 21 = .ok (.bipush 11, 2) := by decide +kernel
theorem dX1_across_23 : decode cX1_across 23 = .ok (.imul, 1) := by decide +kernel
theorem dX1_across_24 : decode cX1_across 24 = .ok (.iload 7, 2) := by decide +kernel
theorem dX1_across_26 : decode cX1_across 26 = .ok (.iadd, 1) := by decide +kernel
theorem dX1_across_27 : decode cX1_across 27 = .ok (.laload, 1) := by decide +kernel
theorem dX1_across_28 : decode cX1_across 28 = .ok (.lstore 8, 2) := by decide +kernel
theorem dX1_across_30 : decode cX1_across 30 = .ok (.lload 8, 2) := by decide +kernel
theorem dX1_across_32 : decode cX1_across 32 = .ok (.lload 5, 2) := by decide +kernel
theorem dX1_across_34 : decode cX1_across 34 = .ok (.lcmp, 1) := by decide +kernel
theorem dX1_across_35 : decode cX1_across 35 = .ok (.ifCond .ge 23, 3) := by decide +kernel
theorem dX1_across_38 : decode cX1_across 38 = .ok (.lload 5, 2) := by decide +kernel
theorem dX1_across_40 : decode cX1_across 40 = .ok (.aload_n 1, 1) := by decide +kernel
theorem dX1_across_41 : decode cX1_across 41 = .ok (.iload_n 2, 1) := by decide +kernel
theorem dX1_across_42 : decode cX1_across 42 = .ok (.iload_n 3, 1) := by decide +kernel
theorem dX1_across_43 : decode cX1_across 43 = .ok (.iload 7, 2) := by decide +kernel
theorem dX1_across_45 : decode cX1_across 45 = .ok (.invokevirtual 37, 3) := by decide +kernel
theorem dX1_across_48 : decode cX1_across 48 = .ok (.lload 8, 2) := by decide +kernel
theorem dX1_across_50 : decode cX1_across 50 = .ok (.invokestatic 41, 3) := by decide +kernel
theorem dX1_across_53 : decode cX1_across 53 = .ok (.invokestatic 45, 3) := by decide +kernel
theorem dX1_across_56 : decode cX1_across 56 = .ok (.lstore 5, 2) := by decide +kernel
theorem dX1_across_58 : decode cX1_across 58 = .ok (.iinc 7 1, 3) := by decide +kernel
theorem dX1_across_61 : decode cX1_across 61 = .ok (.goto (-53), 3) := by decide +kernel
theorem dX1_across_64 : decode cX1_across 64 = .ok (.lload 5, 2) := by decide +kernel
theorem dX1_across_66 : decode cX1_across 66 = .ok (.lreturn, 1) := by decide +kernel
theorem dX1_after_0 : decode cX1_after 0 = .ok (.aload_n 2, 1) := by decide +kernel
theorem dX1_after_1 : decode cX1_after 1 = .ok (.getfield 50, 3) := by decide +kernel
theorem dX1_after_4 : decode cX1_after 4 = .ok (.iload_n 3, 1) := by decide +kernel
theorem dX1_after_5 : decode cX1_after 5 = .ok (.iaload, 1) := by decide +kernel
theorem dX1_after_6 : decode cX1_after 6 = .ok (.istore 5, 2) := by decide +kernel
theorem dX1_after_8 : decode cX1_after 8 = .ok (.aload_n 2, 1) := by decide +kernel
theorem dX1_after_9 : decode cX1_after 9 = .ok (.getfield 55, 3) := by decide +kernel
theorem dX1_after_12 : decode cX1_after 12 = .ok (.iload_n 3, 1) := by decide +kernel
theorem dX1_after_13 : decode cX1_after 13 = .ok (.iaload, 1) := by decide +kernel
theorem dX1_after_14 : decode cX1_after 14 = .ok (.iconst (-1), 1) := by decide +kernel
theorem dX1_after_15 : decode cX1_after 15 = .ok (.if_icmp .ne 17, 3) := by decide +kernel
theorem dX1_after_18 : decode cX1_after 18 = .ok (.aload_n 0, 1) := by decide +kernel
theorem dX1_after_19 : decode cX1_after 19 = .ok (.getfield 9, 3) := by decide +kernel
theorem dX1_after_22 : decode cX1_after 22 = .ok (.iload 4, 2) := by decide +kernel
theorem dX1_after_24 : decode cX1_after 24 = .ok (.bipush 11, 2) := by decide +kernel
theorem dX1_after_26 : decode cX1_after 26 = .ok (.imul, 1) := by decide +kernel
theorem dX1_after_27 : decode cX1_after 27 = .ok (.iload 5, 2) := by decide +kernel
theorem dX1_after_29 : decode cX1_after 29 = .ok (.iadd, 1) := by decide +kernel
theorem dX1_after_30 : decode cX1_after 30 = .ok (.laload, 1) := by decide +kernel
theorem dX1_after_31 : decode cX1_after 31 = .ok (.lreturn, 1) := by decide +kernel
theorem dX1_after_32 : decode cX1_after 32 = .ok (.aload_n 2, 1) := by decide +kernel
theorem dX1_after_33 : decode cX1_after 33 = .ok (.getfield 58, 3) := by decide +kernel
theorem dX1_after_36 : decode cX1_after 36 = .ok (.iload_n 3, 1) := by decide +kernel
theorem dX1_after_37 : decode cX1_after 37 = .ok (.iaload, 1) := by decide +kernel
theorem dX1_after_38 : decode cX1_after 38 = .ok (.iconst (-1), 1) := by decide +kernel
theorem dX1_after_39 : decode cX1_after 39 = .ok (.if_icmp .ne 19, 3) := by decide +kernel
theorem dX1_after_42 : decode cX1_after 42 = .ok (.aload_n 0, 1) := by decide +kernel
theorem dX1_after_43 : decode cX1_after 43 = .ok (.aload_n 1, 1) := by decide +kernel
theorem dX1_after_44 : decode cX1_after 44 = .ok (.iload 5, 2) := by decide +kernel
theorem dX1_after_46 : decode cX1_after 46 = .ok (.aload_n 2, 1) := by decide +kernel
theorem dX1_after_47 : decode cX1_after 47 = .ok (.getfield 55, 3) := by decide +kernel
theorem dX1_after_50 : decode cX1_after 50 = .ok (.iload_n 3, 1) := by decide +kernel
theorem dX1_after_51 : decode cX1_after 51 = .ok (.iaload, 1) := by decide +kernel
theorem dX1_after_52 : decode cX1_after 52 = .ok (.iload 4, 2) := by decide +kernel
theorem dX1_after_54 : decode cX1_after 54 = .ok (.invokevirtual 33, 3) := by decide +kernel
theorem dX1_after_57 : decode cX1_after 57 = .ok (.lreturn, 1) := by decide +kernel
theorem dX1_after_58 : decode cX1_after 58 = .ok (.ldc2_w 21, 3) := by decide +kernel
theorem dX1_after_61 : decode cX1_after 61 = .ok (.lstore 6, 2) := by decide +kernel
theorem dX1_after_63 : decode cX1_after 63 = .ok (.iconst 0, 1) := by decide +kernel
theorem dX1_after_64 : decode cX1_after 64 = .ok (.istore 8, 2) := by decide +kernel
theorem dX1_after_66 : decode cX1_after 66 = .ok (.iload 8, 2) := by decide +kernel
theorem dX1_after_68 : decode cX1_after 68 = .ok (.bipush 11, 2) := by decide +kernel
theorem dX1_after_70 : decode cX1_after 70 = .ok (.if_icmp .ge 60, 3) := by decide +kernel
theorem dX1_after_73 : decode cX1_after 73 = .ok (.aload_n 1, 1) := by decide +kernel
theorem dX1_after_74 : decode cX1_after 74 = .ok (.iload 5, 2) := by decide +kernel
theorem dX1_after_76 : decode cX1_after 76 = .ok (.aload_n 2, 1) := by decide +kernel
theorem dX1_after_77 : decode cX1_after 77 = .ok (.getfield 55, 3) := by decide +kernel
theorem dX1_after_80 : decode cX1_after 80 = .ok (.iload_n 3, 1) := by decide +kernel
theorem dX1_after_81 : decode cX1_after 81 = .ok (.iaload, 1) := by decide +kernel
theorem dX1_after_82 : decode cX1_after 82 = .ok (.iload 8, 2) := by decide +kernel
theorem dX1_after_84 : decode cX1_after 84 = .ok (.invokevirtual 37, 3) := by decide +kernel
theorem dX1_after_87 : decode cX1_after 87 = .ok (.lstore 9, 2) := by decide +kernel
theorem dX1_after_89 : decode cX1_after 89 = .ok (.lload 9, 2) := by decide +kernel
theorem dX1_after_91 : decode cX1_after 91 = .ok (.lload 6, 2) := by decide +kernel
theorem dX1_after_93 : decode cX1_after 93 = .ok (.lcmp, 1) := by decide +kernel
theorem dX1_after_94 : decode cX1_after 94 = .ok (.ifCond .ge 30, 3) := by decide +kernel
theorem dX1_after_97 : decode cX1_after 97 = .ok (.lload 6, 2) := by decide +kernel
theorem dX1_after_99 : decode cX1_after 99 = .ok (.lload 9, 2) := by decide +kernel
theorem dX1_after_101 : decode cX1_after 101 = .ok (.aload_n 0, 1) := by decide +kernel
theorem dX1_after_102 : decode cX1_after 102 = .ok (.aload_n 1, 1) := by decide +kernel
theorem dX1_after_103 : decode cX1_after 103 = .ok (.iload 8, 2) := by decide +kernel
theorem dX1_after_105 : decode cX1_after 105 = .ok (.aload_n 2, 1) := by decide +kernel
theorem dX1_after_106 : decode cX1_after 106 = .ok (.getfield 58, 3) := by decide +kernel
theorem dX1_after_109 : decode cX1_after 109 = .ok (.iload_n 3, 1) := by decide +kernel
theorem dX1_after_110 : decode cX1_after 110 = .ok (.iaload, 1) := by decide +kernel
theorem dX1_after_111 : decode cX1_after 111 = .ok (.iload 4, 2) := by decide +kernel
theorem dX1_after_113 : decode cX1_after 113 = .ok (.invokevirtual 33, 3) := by decide +kernel
theorem dX1_after_116 : decode cX1_after 116 = .ok (.invokestatic 41, 3) := by decide +kernel
theorem dX1_after_119 : decode cX1_after 119 = .ok (.invokestatic 45, 3) := by decide +kernel
theorem dX1_after_122 : decode cX1_after 122 = .ok (.lstore 6, 2) := by decide +kernel
theorem dX1_after_124 : decode cX1_after 124 = .ok (.iinc 8 1, 3) := by decide +kernel
theorem dX1_after_127 : decode cX1_after 127 = .ok (.goto (-61), 3) := by decide +kernel
theorem dX1_after_130 : decode cX1_after 130 = .ok (.lload 6, 2) := by decide +kernel
theorem dX1_after_132 : decode cX1_after 132 = .ok (.lreturn, 1) := by decide +kernel
end
section
theorem dX2_init_0 : decode cX2_init 0 = .ok (.aload_n 0, 1) := by decide +kernel
theorem dX2_init_1 : decode cX2_init 1 = .ok (.invokespecial 3, 3) := by decide +kernel
theorem dX2_init_4 : decode cX2_init 4 = .ok (.aload_n 0, 1) := by decide +kernel
theorem dX2_init_5 : decode cX2_init 5 = .ok (.iconst 0, 1) := by decide +kernel
theorem dX2_init_6 : decode cX2_init 6 = .ok (.putfield 9, 3) := by decide +kernel
theorem dX2_init_9 : decode cX2_init 9 = .ok (.aload_n 0, 1) := by decide +kernel
theorem dX2_init_10 : decode cX2_init 10 = .ok (.iconst 0, 1) := by decide +kernel
theorem dX2_init_11 : decode cX2_init 11 = .ok (.putfield 15, 3) := by decide +kernel
theorem dX2_init_14 : decode cX2_init 14 = .ok (.aload_n 0, 1) := by decide +kernel
theorem dX2_init_15 : decode cX2_init 15 = .ok (.bipush 55, 2) := by decide +kernel
theorem dX2_init_17 : decode cX2_init 17 = .ok (.newarray .int, 2) := by decide +kernel
theorem dX2_init_19 : decode cX2_init 19 = .ok (.putfield 18, 3) := by decide +kernel
theorem dX2_init_22 : decode cX2_init 22 = .ok (.aload_n 0, 1) := by decide +kernel
theorem dX2_init_23 : decode cX2_init 23 = .ok (.sipush 275, 3) := by decide +kernel
theorem dX2_init_26 : decode cX2_init 26 = .ok (.newarray .long, 2) := by decide +kernel
theorem dX2_init_28 : decode cX2_init 28 = .ok (.putfield 22, 3) := by decide +kernel
theorem dX2_init_31 : decode cX2_init 31 = .ok (.aload_n 0, 1) := by decide +kernel
theorem dX2_init_32 : decode cX2_init 32 = .ok (.iconst 1, 1) := by decide +kernel
theorem dX2_init_33 : decode cX2_init 33 = .ok (.putfield 26, 3) := by decide +kernel
theorem dX2_init_36 : decode cX2_init 36 = .ok (.aload_n 0, 1) := by decide +kernel
theorem dX2_init_37 : decode cX2_init 37 = .ok (.iconst (-1), 1) := by decide +kernel
theorem dX2_init_38 : decode cX2_init 38 = .ok (.putfield 30, 3) := by decide +kernel
theorem dX2_init_41 : decode cX2_init 41 = .ok (.return_, 1) := by decide +kernel
theorem dX2_restart_0 : decode cX2_restart 0 = .ok (.aload_n 0, 1) := by decide +kernel
theorem dX2_restart_1 : decode cX2_restart 1 = .ok (.iconst 0, 1) := by decide +kernel
theorem dX2_restart_2 : decode cX2_restart 2 = .ok (.putfield 9, 3) := by decide +kernel
theorem dX2_restart_5 : decode cX2_restart 5 = .ok (.aload_n 0, 1) := by decide +kernel
theorem dX2_restart_6 : decode cX2_restart 6 = .ok (.iconst 0, 1) := by decide +kernel
theorem dX2_restart_7 : decode cX2_restart 7 = .ok (.putfield 15, 3) := by decide +kernel
theorem dX2_restart_10 : decode cX2_restart 10 = .ok (.aload_n 0, 1) := by decide +kernel
theorem dX2_restart_11 : decode cX2_restart 11 = .ok (.getfield 18, 3) := by decide +kernel
theorem dX2_restart_14 : decode cX2_restart 14 = .ok (.iconst 0, 1) := by decide +kernel
theorem dX2_restart_15 : decode cX2_restart 15 = .ok (.invokestatic 33, 3) := by decide +kernel
theorem dX2_restart_18 : decode cX2_restart 18 = .ok (.aload_n 0, 1) := by decide +kernel
theorem dX2_restart_19 : decode cX2_restart 19 = .ok (.iconst 1, 1) := by decide +kernel
theorem dX2_restart_20 : decode cX2_restart 20 = .ok (.putfield 26, 3) := by decide +kernel
theorem dX2_restart_23 : decode cX2_restart 23 = .ok (.return_, 1) := by decide +kernel
theorem dX2_join_0 : decode cX2_join 0 = .ok (.aload_n 0, 1) := by decide +kernel
theorem dX2_join_1 : decode cX2_join 1 = .ok (.getfield 18, 3) := by decide +kernel
theorem dX2_join_4 : decode cX2_join 4 = .ok (.iload_n 1, 1) := by decide +kernel
theorem dX2_join_5 : decode cX2_join 5 = .ok (.iconst 5, 1) := by decide +kernel
theorem dX2_join_6 : decode cX2_join 6 = .ok (.imul, 1) := by decide +kernel
theorem dX2_join_7 : decode cX2_join 7 = .ok (.iload_n 2, 1) := by decide +kernel
theorem dX2_join_8 : decode cX2_join 8 = .ok (.iadd, 1) := by decide +kernel
theorem dX2_join_9 : decode cX2_join 9 = .ok (.dup2, 1) := by decide +kernel
theorem dX2_join_10 : decode cX2_join 10 = .ok (.iaload, 1) := by decide +kernel
theorem dX2_join_11 : decode cX2_join 11 = .ok (.iconst 1, 1) := by decide +kernel
theorem dX2_join_12 : decode cX2_join 12 = .ok (.iload_n 3, 1) := by decide +kernel
theorem dX2_join_13 : decode cX2_join 13 = .ok (.ishl, 1) := by decide +kernel
theorem dX2_join_14 : decode cX2_join 14 = .ok (.ior, 1) := by decide +kernel
theorem dX2_join_15 : decode cX2_join 15 = .ok (.iastore, 1) := by decide +kernel
theorem dX2_join_16 : decode cX2_join 16 = .ok (.aload_n 0, 1) := by decide +kernel
theorem dX2_join_17 : decode cX2_join 17 = .ok (.dup, 1) := by decide +kernel
theorem dX2_join_18 : decode cX2_join 18 = .ok (.getfield 9, 3) := by decide +kernel
theorem dX2_join_21 : decode cX2_join 21 = .ok (.iconst 1, 1) := by decide +kernel
theorem dX2_join_22 : decode cX2_join 22 = .ok (.iadd, 1) := by decide +kernel
theorem dX2_join_23 : decode cX2_join 23 = .ok (.putfield 9, 3) := by decide +kernel
theorem dX2_join_26 : decode cX2_join 26 = .ok (.aload_n 0, 1) := by decide +kernel
theorem dX2_join_27 : decode cX2_join 27 = .ok (.iconst 1, 1) := by decide +kernel
theorem dX2_join_28 : decode cX2_join 28 = .ok (.putfield 26, 3) := by decide +kernel
theorem dX2_join_31 : decode cX2_join 31 = .ok (.aload_n 0, 1) := by decide +kernel
theorem dX2_join_32 : decode cX2_join 32 = .ok (.getfield 9, 3) := by decide +kernel
theorem dX2_join_35 : decode cX2_join 35 = .ok (.ireturn, 1) := by decide +kernel
theorem dX2_mark_0 : decode cX2_mark 0 = .ok (.aload_n 0, 1) := by decide +kernel
theorem dX2_mark_1 : decode cX2_mark 1 = .ok (.iload_n 1, 1) := by decide +kernel
theorem dX2_mark_2 : decode cX2_mark 2 = .ok (.invokevirtual 39, 3) := by decide +kernel
theorem dX2_mark_5 : decode cX2_mark 5 = .ok (.istore_n 3, 1) := by decide +kernel
theorem dX2_mark_6 : decode cX2_mark 6 = .ok (.aload_n 0, 1) := by decide +kernel
theorem dX2_mark_7 : decode cX2_mark 7 = .ok (.iload_n 2, 1) := by decide +kernel
theorem dX2_mark_8 : decode cX2_mark 8 = .ok (.ifCond .eq 14, 3) := by decide +kernel
theorem dX2_mark_11 : decode cX2_mark 11 = .ok (.aload_n 0, 1) := by decide +kernel
theorem dX2_mark_12 : decode cX2_mark 12 = .ok (.getfield 15, 3) := by decide +kernel
theorem dX2_mark_15 : decode cX2_mark 15 = .ok (.iconst 1, 1) := by decide +kernel
theorem dX2_mark_16 : decode cX2_mark 16 = .ok (.iload_n 1, 1) := by decide +kernel
theorem dX2_mark_17 : decode cX2_mark 17 = .ok (.ishl, 1) := by decide +kernel
theorem dX2_mark_18 : decode cX2_mark 18 = .ok (.ior, 1) := by decide +kernel
theorem dX2_mark_19 : decode cX2_mark 19 = .ok (.goto 13, 3) := by decide +kernel
theorem dX2_mark_22 : decode cX2_mark 22 = .ok (.aload_n 0, 1) := by decide +kernel
theorem dX2_mark_23 : decode cX2_mark 23 = .ok (.getfield 15, 3) := by decide +kernel
theorem dX2_mark_26 : decode cX2_mark 26 = .ok (.iconst 1, 1) := by decide +kernel
theorem dX2_mark_27 : decode cX2_mark 27 = .ok (.iload_n 1, 1) := by decide +kernel
theorem dX2_mark_28 : decode cX2_mark 28 = .ok (.ishl, 1) := by decide +kernel
theorem dX2_mark_29 : decode cX2_mark 29 = .ok (.iconst (-1), 1) := by decide +kernel
theorem dX2_mark_30 : decode cX2_mark 30 = .ok (.ixor, 1) := by decide +kernel
theorem dX2_mark_31 : decode cX2_mark 31 = .ok (.iand, 1) := by decide +kernel
theorem dX2_mark_32 : decode cX2_mark 32 = .ok (.putfield 15, 3) := by decide +kernel
theorem dX2_mark_35 : decode cX2_mark 35 = .ok (.iload_n 3, 1) := by decide +kernel
theorem dX2_mark_36 : decode cX2_mark 36 = .ok (.ireturn, 1) := by decide +kernel
theorem dX2_isLast_0 : decode cX2_isLast 0 = .ok (.aload_n 0, 1) := by decide +kernel
theorem dX2_isLast_1 : decode cX2_isLast 1 = .ok (.getfield 15, 3) := by decide +kernel
theorem dX2_isLast_4 : decode cX2_isLast 4 = .ok (.iload_n 1, 1) := by decide +kernel
theorem dX2_isLast_5 : decode cX2_isLast 5 = .ok (.invokestatic 43, 3) := by decide +kernel
theorem dX2_isLast_8 : decode cX2_isLast 8 = .ok (.ireturn, 1) := by decide +kernel
theorem dX2_hasHop_0 : decode cX2_hasHop 0 = .ok (.aload_n 0, 1) := by decide +kernel
theorem dX2_hasHop_1 : decode cX2_hasHop 1 = .ok (.getfield 18, 3) := by decide +kernel
theorem dX2_hasHop_4 : decode cX2_hasHop 4 = .ok (.iload_n 1, 1) := by decide +kernel
theorem dX2_hasHop_5 : decode cX2_hasHop 5 = .ok (.iconst 5, 1) := by decide +kernel
theorem dX2_hasHop_6 : decode cX2_hasHop 6 = .ok (.imul, 1) := by decide +kernel
theorem dX2_hasHop_7 : decode cX2_hasHop 7 = .ok (.iload_n 2, 1) := by decide +kernel
theorem dX2_hasHop_8 : decode cX2_hasHop 8 = .ok (.iadd, 1) := by decide +kernel
theorem dX2_hasHop_9 : decode cX2_hasHop 9 = .ok (.iaload, 1) := by decide +kernel
theorem dX2_hasHop_10 : decode cX2_hasHop 10 = .ok (.iload_n 3, 1) := by decide +kernel
theorem dX2_hasHop_11 : decode cX2_hasHop 11 = .ok (.invokestatic 43, 3) := by decide +kernel
theorem dX2_hasHop_14 : decode cX2_hasHop 14 = .ok (.ireturn, 1) := by decide +kernel
theorem dX2_holds_0 : decode cX2_holds 0 = .ok (.iconst 1, 1) := by decide +kernel
theorem dX2_holds_1 : decode cX2_holds 1 = .ok (.aload_n 1, 1) := by decide +kernel
theorem dX2_holds_2 : decode cX2_holds 2 = .ok (.getfield 47, 3) := by decide +kernel
theorem dX2_holds_5 : decode cX2_holds 5 = .ok (.ishl, 1) := by decide +kernel
theorem dX2_holds_6 : decode cX2_holds 6 = .ok (.istore_n 2, 1) := by decide +kernel
theorem dX2_holds_7 : decode cX2_holds 7 = .ok (.aload_n 1, 1) := by decide +kernel
theorem dX2_holds_8 : decode cX2_holds 8 = .ok (.getfield 52, 3) := by decide +kernel
theorem dX2_holds_11 : decode cX2_holds 11 = .ok (.iconst 1, 1) := by decide +kernel
theorem dX2_holds_12 : decode cX2_holds 12 = .ok (.isub, 1) := by decide +kernel
theorem dX2_holds_13 : decode cX2_holds 13 = .ok (.istore_n 3, 1) := by decide +kernel
theorem dX2_holds_14 : decode cX2_holds 14 = .ok (.iload_n 3, 1) := by decide +kernel
theorem dX2_holds_15 : decode cX2_holds 15 = .ok (.ifCond .lt 23, 3) := by decide +kernel
theorem dX2_holds_18 : decode cX2_holds 18 = .ok (.aload_n 0, 1) := by decide +kernel
theorem dX2_holds_19 : decode cX2_holds 19 = .ok (.iload_n 2, 1) := by decide +kernel
theorem dX2_holds_20 : decode cX2_holds 20 = .ok (.aload_n 1, 1) := by decide +kernel
theorem dX2_holds_21 : decode cX2_holds 21 = .ok (.getfield 55, 3) := by decide +kernel
theorem dX2_holds_24 : decode cX2_holds 24 = .ok (.iload_n 3, 1) := by decide +kernel
theorem dX2_holds_25 : decode cX2_holds 25 = .ok (.iaload, 1) := by decide +kernel
theorem dX2_holds_26 : decode cX2_holds 26 = .ok (.invokevirtual 58, 3) := by decide +kernel
theorem dX2_holds_29 : decode cX2_holds 29 = .ok (.iconst 5, 1) := by decide +kernel
theorem dX2_holds_30 : decode cX2_holds 30 = .ok (.ishl, 1) := by decide +kernel
theorem dX2_holds_31 : decode cX2_holds 31 = .ok (.istore_n 2, 1) := by decide +kernel
theorem dX2_holds_32 : decode cX2_holds 32 = .ok (.iinc 3 (-1), 3) := by decide +kernel
theorem dX2_holds_35 : decode cX2_holds 35 = .ok (.goto (-21), 3) := by decide +kernel
theorem dX2_holds_38 : decode cX2_holds 38 = .ok (.iload_n 2, 1) := by decide +kernel
theorem dX2_holds_39 : decode cX2_holds 39 = .ok (.aload_n 0, 1) := by decide +kernel
theorem dX2_holds_40 : decode cX2_holds 40 = .ok (.getfield 15, 3) := by decide +kernel
theorem dX2_holds_43 : decode cX2_holds 43 = .ok (.iand, 1) := by decide +kernel
theorem dX2_holds_44 : decode cX2_holds 44 = .ok (.ifCond .eq 7, 3) := by decide +kernel
theorem dX2_holds_47 : decode cX2_holds 47 = .ok (.iconst 1, 1) := by decide +kernel
theorem dX2_holds_48 : decode cX2_holds 48 = .ok (.goto 4, 3) := by decide +kernel
theorem dX2_holds_51 : decode cX2_holds 51 = .ok (.iconst 0, 1) := by decide +kernel
theorem dX2_holds_52 : decode cX2_holds 52 = .ok (.ireturn, 1) := by decide +kernel
theorem dX2_allHops_0 : decode cX2_allHops 0 = .ok (.iconst 0, 1) := by decide +kernel
theorem dX2_allHops_1 : decode cX2_allHops 1 = .ok (.istore_n 3, 1) := by decide +kernel
theorem dX2_allHops_2 : decode cX2_allHops 2 = .ok (.iconst 0, 1) := by decide +kernel
theorem dX2_allHops_3 : decode cX2_allHops 3 = .ok (.istore 4, 2) := by decide +kernel
theorem dX2_allHops_5 : decode cX2_allHops 5 = .ok (.iload 4, 2) := by decide +kernel
theorem dX2_allHops_7 : decode cX2_allHops 7 = .ok (.bipush 11, 2) := by decide +kernel
theorem dX2_allHops_9 : decode cX2_allHops 9 = .ok (.if_icmp .ge 32, 3) := by decide +kernel
theorem dX2_allHops_12 : decode cX2_allHops 12 = .ok (.iload_n 1, 1) := by decide +kernel
theorem dX2_allHops_13 : decode cX2_allHops 13 = .ok (.iload 4, 2) := by decide +kernel
theorem dX2_allHops_15 : decode cX2_allHops 15 = .ok (.invokestatic 43, 3) := by decide +kernel
theorem dX2_allHops_18 : decode cX2_allHops 18 = .ok (.ifCond .eq 17, 3) := by decide +kernel
theorem dX2_allHops_21 : decode cX2_allHops 21 = .ok (.iload_n 3, 1) := by decide +kernel
theorem dX2_allHops_22 : decode cX2_allHops 22 = .ok (.aload_n 0, 1) := by decide +kernel
theorem dX2_allHops_23 : decode cX2_allHops 23 = .ok (.getfield 18, 3) := by decide +kernel
theorem dX2_allHops_26 : decode cX2_allHops 26 = .ok (.iload 4, 2) := by decide +kernel
theorem dX2_allHops_28 : decode cX2_allHops 28 = .ok (.iconst 5, 1) := by decide +kernel
theorem dX2_allHops_29 : decode cX2_allHops 29 = .ok (.imul, 1) := by decide +kernel
theorem dX2_allHops_30 : decode cX2_allHops 30 = .ok (.iload_n 2, 1) := by decide +kernel
theorem dX2_allHops_31 : decode cX2_allHops 31 = .ok (.iadd, 1) := by decide +kernel
theorem dX2_allHops_32 : decode cX2_allHops 32 = .ok (.iaload, 1) := by decide +kernel
theorem dX2_allHops_33 : decode cX2_allHops 33 = .ok (.ior, 1) := by decide +kernel
theorem dX2_allHops_34 : decode cX2_allHops 34 = .ok (.istore_n 3, 1) := by decide +kernel
theorem dX2_allHops_35 : decode cX2_allHops 35 = .ok (.iinc 4 1, 3) := by decide +kernel
theorem dX2_allHops_38 : decode cX2_allHops 38 = .ok (.goto (-33), 3) := by decide +kernel
theorem dX2_allHops_41 : decode cX2_allHops 41 = .ok (.iload_n 3, 1) := by decide +kernel
theorem dX2_allHops_42 : decode cX2_allHops 42 = .ok (.ireturn, 1) := by decide +kernel
theorem dX2_renew_0 : decode cX2_renew 0 = .ok (.aload_n 0, 1) := by decide +kernel
theorem dX2_renew_1 : decode cX2_renew 1 = .ok (.getfield 26, 3) := by decide +kernel
theorem dX2_renew_4 : decode cX2_renew 4 = .ok (.ifCond .ne 15, 3) := by decide +kernel
theorem dX2_renew_7 : decode cX2_renew 7 = .ok (.aload_n 0, 1) := by decide +kernel
theorem dX2_renew_8 : decode cX2_renew 8 = .ok (.getfield 30, 3) := by decide +kernel
theorem dX2_renew_11 : decode cX2_renew 11 = .ok (.aload_n 1, 1) := by decide +kernel
theorem dX2_renew_12 : decode cX2_renew 12 = .ok (.getfield 62, 3) := by decide +kernel
theorem dX2_renew_15 : decode cX2_renew 15 = .ok (.if_icmp .ne 4, 3) := by decide +kernel
theorem dX2_renew_18 : decode cX2_renew 18 = .ok (.return_, 1) := by decide +kernel
theorem dX2_renew_19 : decode cX2_renew 19 = .ok (.aload_n 0, 1) := by decide +kernel
theorem dX2_renew_20 : decode cX2_renew 20 = .ok (.iconst 0, 1) := by decide +kernel
theorem dX2_renew_21 : decode cX2_renew 21 = .ok (.putfield 26, 3) := by decide +kernel
theorem dX2_renew_24 : decode cX2_renew 24 = .ok (.aload_n 0, 1) := by decide +kernel
theorem dX2_renew_25 : decode cX2_renew 25 = .ok (.aload_n 1, 1) := by decide +kernel
theorem dX2_renew_26 : decode cX2_renew 26 = .ok (.getfield 62, 3) := by decide +kernel
theorem dX2_renew_29 : decode cX2_renew 29 = .ok (.putfield 30, 3) := by decide +kernel
theorem dX2_renew_32 : decode cX2_renew 32 = .ok (.aload_n 0, 1) := by decide +kernel
theorem dX2_renew_33 : decode cX2_renew 33 = .ok (.aload_n 2, 1) := by decide +kernel
theorem dX2_renew_34 : decode cX2_renew 34 = .ok (.invokevirtual 67, 3) := by decide +kernel
theorem dX2_renew_37 : decode cX2_renew 37 = .ok (.iconst 1, 1) := by decide +kernel
theorem dX2_renew_38 : decode cX2_renew 38 = .ok (.istore_n 3, 1) := by decide +kernel
theorem dX2_renew_39 : decode cX2_renew 39 = .ok (.iconst 0, 1) := by decide +kernel
theorem dX2_renew_40 : decode cX2_renew 40 = .ok (.istore 4, 2) := by decide +kernel
theorem dX2_renew_42 : decode cX2_renew 42 = .ok (.iload_n 3, 1) := by decide +kernel
theorem dX2_renew_43 : decode cX2_renew 43 = .ok (.ifCond .eq 59, 3) := by decide +kernel
theorem dX2_renew_46 : decode cX2_renew 46 = .ok (.iload 4, 2) := by decide +kernel
theorem dX2_renew_48 : decode cX2_renew 48 = .ok (.aload_n 0, 1) := by decide +kernel
theorem dX2_renew_49 : decode cX2_renew 49 = .ok (.getfield 22, 3) := by decide +kernel
theorem dX2_renew_52 : decode cX2_renew 52 = .ok (.arraylength, 1) := by decide +kernel
theorem dX2_renew_53 : decode cX2_renew 53 = .ok (.if_icmp .gt 49, 3) := by decide +kernel
theorem dX2_renew_56 : decode cX2_renew 56 = .ok (.iconst 0, 1) := by decide +kernel
theorem dX2_renew_57 : decode cX2_renew 57 = .ok (.istore_n 3, 1) := by decide +kernel
theorem dX2_renew_58 : decode cX2_renew 58 = .ok (.iconst 0, 1) := by decide +kernel
theorem dX2_renew_59 : decode cX2_renew 59 = .ok (.istore 5, 2) := by decide +kernel
theorem dX2_renew_61 : decode cX2_renew 61 = .ok (.iload 5, 2) := by decide +kernel
theorem dX2_renew_63 : decode cX2_renew 63 = .ok (.aload_n 1, 1) := by decide +kernel
theorem dX2_renew_64 : decode cX2_renew 64 = .ok (.getfield 71, 3) := by decide +kernel
theorem dX2_renew_67 : decode cX2_renew 67 = .ok (.if_icmp .ge 29, 3) := by decide +kernel
theorem dX2_renew_70 : decode cX2_renew 70 = .ok (.aload_n 0, 1) := by decide +kernel
theorem dX2_renew_71 : decode cX2_renew 71 = .ok (.aload_n 1, 1) := by decide +kernel
theorem dX2_renew_72 : decode cX2_renew 72 = .ok (.iload 5, 2) := by decide +kernel
theorem dX2_renew_74 : decode cX2_renew 74 = .ok (.invokevirtual 74, 3) := by decide +kernel
theorem dX2_renew_77 : decode cX2_renew 77 = .ok (.ifCond .ne 7, 3) := by decide +kernel
theorem dX2_renew_80 : decode cX2_renew 80 = .ok (.iload_n 3, 1) := by decide +kernel
theorem dX2_renew_81 : decode cX2_renew 81 = .ok (.ifCond .eq 7, 3) := by decide +kernel
theorem dX2_renew_84 : decode cX2_renew 84 = .ok (.iconst 1, 1) := by decide +kernel
theorem dX2_renew_85 : decode cX2_renew 85 = .ok (.goto 4, 3) := by decide +kernel
theorem dX2_renew_88 : decode cX2_renew 88 = .ok (.iconst 0, 1) := by decide +kernel
theorem dX2_renew_89 : decode cX2_renew 89 = .ok (.istore_n 3, 1) := by decide +kernel
theorem dX2_renew_90 : decode cX2_renew 90 = .ok (.iinc 5 1, 3) := by decide +kernel
theorem dX2_renew_93 : decode cX2_renew 93 = .ok (.goto (-32), 3) := by decide +kernel
theorem dX2_renew_96 : decode cX2_renew 96 = .ok (.iinc 4 1, 3) := by decide +kernel
theorem dX2_renew_99 : decode cX2_renew 99 = .ok (.goto (-57), 3) := by decide +kernel
theorem dX2_renew_102 : decode cX2_renew 102 = .ok (.return_, 1) := by decide +kernel
theorem dX2_startFrom_0 : decode cX2_startFrom 0 = .ok (.iconst 0, 1) := by decide +kernel
theorem dX2_startFrom_1 : decode cX2_startFrom 1 = .ok (.istore_n 2, 1) := by decide +kernel
theorem dX2_startFrom_2 : decode cX2_startFrom 2 = .ok (.iload_n 2, 1) := by decide +kernel
theorem dX2_startFrom_3 : decode cX2_startFrom 3 = .ok (.bipush 25, 2) := by decide +kernel
theorem dX2_startFrom_5 : decode cX2_startFrom 5 = .ok (.if_icmp .ge 95, 3) := by decide +kernel
theorem dX2_startFrom_8 : decode cX2_startFrom 8 = .ok (.iconst 0, 1) := by decide +kernel
theorem dX2_startFrom_9 : decode cX2_startFrom 9 = .ok (.istore_n 3, 1) := by decide +kernel
theorem dX2_startFrom_10 : decode cX2_startFrom 10 = .ok (.iload_n 3, 1) := by decide +kernel
theorem dX2_startFrom_11 : decode cX2_startFrom 11 = .ok (.iconst 5, 1) := by decide +kernel
theorem dX2_startFrom_12 : decode cX2_startFrom 12 = .ok (.if_icmp .ge 30, 3) := by decide +kernel
theorem dX2_startFrom_15 : decode cX2_startFrom 15 = .ok (.aload_n 0, 1) := by decide +kernel
theorem dX2_startFrom_16 : decode cX2_startFrom 16 = .ok (.getfield 22, 3) := by decide +kernel
theorem dX2_startFrom_19 : decode cX2_startFrom 19 = .ok (.iload_n 2, 1) := by decide +kernel
theorem dX2_startFrom_20 : decode cX2_startFrom 20 = .ok (.bipush 11, 2) := by decide +kernel
theorem dX2_startFrom_22 : decode cX2_startFrom 22 = .ok (.imul, 1) := by decide +kernel
theorem dX2_startFrom_23 : decode cX2_startFrom 23 = .ok (.iload_n 3, 1) := by decide +kernel
theorem dX2_startFrom_24 : decode cX2_startFrom 24 = .ok (.iadd, 1) := by decide +kernel
theorem dX2_startFrom_25 : decode cX2_startFrom 25 = .ok (.aload_n 1, 1) := by decide +kernel
theorem dX2_startFrom_26 : decode cX2_startFrom 26 = .ok (.getfield 78, 3) := by decide +kernel
theorem dX2_startFrom_29 : decode cX2_startFrom 29 = .ok (.iload_n 2, 1) := by decide +kernel
theorem dX2_startFrom_30 : decode cX2_startFrom 30 = .ok (.iconst 5, 1) := by decide +kernel
theorem dX2_startFrom_31 : decode cX2_startFrom 31 = .ok (.imul, 1) := by decide +kernel
theorem dX2_startFrom_32 : decode cX2_startFrom 32 = .ok (.iload_n 3, 1) := by decide +kernel
theorem dX2_startFrom_33 : decode cX2_startFrom 33 = .ok (.iadd, 1) := by decide +kernel
theorem dX2_startFrom_34 : decode cX2_startFrom 34 = .ok (.laload, 1) := by decide +kernel
theorem dX2_startFrom_35 : decode cX2_startFrom 35 = .ok (.lastore, 1) := by decide +kernel
theorem dX2_startFrom_36 : decode cX2_startFrom 36 = .ok (.iinc 3 1, 3) := by decide +kernel
theorem dX2_startFrom_39 : decode cX2_startFrom 39 = .ok (.goto (-29), 3) := by decide +kernel
theorem dX2_startFrom_42 : decode cX2_startFrom 42 = .ok (.iconst 0, 1) := by decide +kernel
theorem dX2_startFrom_43 : decode cX2_startFrom 43 = .ok (.istore_n 3, 1) := by decide +kernel
theorem dX2_startFrom_44 : decode cX2_startFrom 44 = .ok (.iload_n 3, 1) := by decide +kernel
theorem dX2_startFrom_45 : decode cX2_startFrom 45 = .ok (.bipush 6, 2) := by decide +kernel
theorem dX2_startFrom_47 : decode cX2_startFrom 47 = .ok (.if_icmp .ge 47, 3) := by decide +kernel
theorem dX2_startFrom_50 : decode cX2_startFrom 50 = .ok (.aload_n 0, 1) := by decide +kernel
theorem dX2_startFrom_51 : decode cX2_startFrom 51 = .ok (.iload_n 2, 1) := by decide +kernel
theorem dX2_startFrom_52 : decode cX2_startFrom 52 = .ok (.iconst 5, 1) := by decide +kernel
theorem dX2_startFrom_53 : decode cX2_startFrom 53 = .ok (.idiv, 1) := by decide +kernel
theorem dX2_startFrom_54 : decode cX2_startFrom 54 = .ok (.iload_n 2, 1) := by decide +kernel
theorem dX2_startFrom_55 : decode cX2_startFrom 55 = .ok (.iconst 5, 1) := by decide +kernel
theorem dX2_startFrom_56 : decode cX2_startFrom 56 = .ok (.irem, 1) := by decide +kernel
theorem dX2_startFrom_57 : decode cX2_startFrom 57 = .ok (.iload_n 3, 1) := by decide +kernel
theorem dX2_startFrom_58 : decode cX2_startFrom 58 = .ok (.invokevirtual 83, 3) := by decide +kernel
theorem dX2_startFrom_61 : decode cX2_startFrom 61 = .ok (.istore 4, 2) := by decide +kernel
theorem dX2_startFrom_63 : decode cX2_startFrom 63 = .ok (.aload_n 0, 1) := by decide +kernel
theorem dX2_startFrom_64 : decode cX2_startFrom 64 = .ok (.getfield 22, 3) := by decide +kernel
theorem dX2_startFrom_67 : decode cX2_startFrom 67 = .ok (.iload_n 2, 1) := by decide +kernel
theorem dX2_startFrom_68 : decode cX2_startFrom 68 = .ok (.bipush 11, 2) := by decide +kernel
theorem dX2_startFrom_70 : decode cX2_startFrom 70 = .ok (.imul, 1) := by decide +kernel
theorem dX2_startFrom_71 : decode cX2_startFrom 71 = .ok (.iconst 5, 1) := by decide +kernel
theorem dX2_startFrom_72 : decode cX2_startFrom 72 = .ok (.iadd, 1) := by decide +kernel
theorem dX2_startFrom_73 : decode cX2_startFrom 73 = .ok (.iload_n 3, 1) := by decide +kernel
theorem dX2_startFrom_74 : decode cX2_startFrom 74 = .ok (.iadd, 1) := by decide +kernel
theorem dX2_startFrom_75 : decode cX2_startFrom 75 = .ok (.iload 4, 2) := by decide +kernel
theorem dX2_startFrom_77 : decode cX2_startFrom 77 = .ok (.ifCond .eq 7, 3) := by decide +kernel
theorem dX2_startFrom_80 : decode cX2_startFrom 80 = .ok (.lconst 0, 1) := by decide +kernel
theorem dX2_startFrom_81 : decode cX2_startFrom 81 = .ok (.goto 6, 3) := by decide +kernel
theorem dX2_startFrom_84 : decode cX2_startFrom 84 = .ok (.ldc2_w 87, 3) := by decide +kernel
theorem dX2_startFrom_87 : decode cX2_startFrom 87 = .ok (.lastore, 1) := by decide +kernel
theorem dX2_startFrom_88 : decode cX2_startFrom 88 = .ok (.iinc 3 1, 3) := by decide +kernel
theorem dX2_startFrom_91 : decode cX2_startFrom 91 = .ok (.goto (-47), 3) := by decide +kernel
theorem dX2_startFrom_94 : decode cX2_startFrom 94 = .ok (.iinc 2 1, 3) := by decide +kernel
theorem dX2_startFrom_97 : decode cX2_startFrom 97 = .ok (.goto (-95), 3) := by decide +kernel
theorem dX2_startFrom_100 : decode cX2_startFrom 100 = .ok (.return_, 1) := by decide +kernel
theorem dX2_lowerBy_0 : decode cX2_lowerBy 0 = .ok (.aload_n 1, 1) := by decide +kernel
theorem dX2_lowerBy_1 : decode cX2_lowerBy 1 = .ok (.getfield 89, 3) := by decide +kernel
theorem dX2_lowerBy_4 : decode cX2_lowerBy 4 = .ok (.iload_n 2, 1) := by decide +kernel
theorem dX2_lowerBy_5 : decode cX2_lowerBy 5 = .ok (.iaload, 1) := by decide +kernel
theorem dX2_lowerBy_6 : decode cX2_lowerBy 6 = .ok (.iconst (-1), 1) := by decide +kernel
theorem dX2_lowerBy_7 : decode cX2_lowerBy 7 = .ok (.if_icmp .ne 5, 3) := by decide +kernel
theorem dX2_lowerBy_10 : decode cX2_lowerBy 10 = .ok (.iconst 0, 1) := by decide +kernel
theorem dX2_lowerBy_11 : decode cX2_lowerBy 11 = .ok (.ireturn, 1) := by decide +kernel
theorem dX2_lowerBy_12 : decode cX2_lowerBy 12 = .ok (.aload_n 1, 1) := by decide +kernel
theorem dX2_lowerBy_13 : decode cX2_lowerBy 13 = .ok (.getfield 92, 3) := by decide +kernel
theorem dX2_lowerBy_16 : decode cX2_lowerBy 16 = .ok (.iload_n 2, 1) := by decide +kernel
theorem dX2_lowerBy_17 : decode cX2_lowerBy 17 = .ok (.iaload, 1) := by decide +kernel
theorem dX2_lowerBy_18 : decode cX2_lowerBy 18 = .ok (.aload_n 1, 1) := by decide +kernel
theorem dX2_lowerBy_19 : decode cX2_lowerBy 19 = .ok (.getfield 89, 3) := by decide +kernel
theorem dX2_lowerBy_22 : decode cX2_lowerBy 22 = .ok (.iload_n 2, 1) := by decide +kernel
theorem dX2_lowerBy_23 : decode cX2_lowerBy 23 = .ok (.iaload, 1) := by decide +kernel
theorem dX2_lowerBy_24 : decode cX2_lowerBy 24 = .ok (.invokestatic 95, 3) := by decide +kernel
theorem dX2_lowerBy_27 : decode cX2_lowerBy 27 = .ok (.bipush 11, 2) := by decide +kernel
theorem dX2_lowerBy_29 : decode cX2_lowerBy 29 = .ok (.imul, 1) := by decide +kernel
theorem dX2_lowerBy_30 : decode cX2_lowerBy 30 = .ok (.istore_n 3, 1) := by decide +kernel
theorem dX2_lowerBy_31 : decode cX2_lowerBy 31 = .ok (.iconst 0, 1) := by decide +kernel
theorem dX2_lowerBy_32 : decode cX2_lowerBy 32 = .ok (.istore 4, 2) := by decide +kernel
theorem dX2_lowerBy_34 : decode cX2_lowerBy 34 = .ok (.iconst 0, 1) := by decide +kernel
theorem dX2_lowerBy_35 : decode cX2_lowerBy 35 = .ok (.istore 5, 2) := by decide +kernel
theorem dX2_lowerBy_37 : decode cX2_lowerBy 37 = .ok (.iload 5, 2) := by decide +kernel
theorem dX2_lowerBy_39 : decode cX2_lowerBy 39 = .ok (.bipush 11, 2) := by decide +kernel
theorem dX2_lowerBy_41 : decode cX2_lowerBy 41 = .ok (.if_icmp .ge 99, 3) := by decide +kernel
theorem dX2_lowerBy_44 : decode cX2_lowerBy 44 = .ok (.lconst 1, 1) := by decide +kernel
theorem dX2_lowerBy_45 : decode cX2_lowerBy 45 = .ok (.aload_n 0, 1) := by decide +kernel
theorem dX2_lowerBy_46 : decode cX2_lowerBy 46 = .ok (.getfield 22, 3) := by decide +kernel
theorem dX2_lowerBy_49 : decode cX2_lowerBy 49 = .ok (.iload_n 3, 1) := by decide +kernel
theorem dX2_lowerBy_50 : decode cX2_lowerBy 50 = .ok (.iload 5, 2) := by decide +kernel
theorem dX2_lowerBy_52 : decode cX2_lowerBy 52 = .ok (.iadd, 1) := by decide +kernel
theorem dX2_lowerBy_53 : decode cX2_lowerBy 53 = .ok (.laload, 1) := by decide +kernel
theorem dX2_lowerBy_54 : decode cX2_lowerBy 54 = .ok (.invokestatic 98, 3) := by decide +kernel
theorem dX2_lowerBy_57 : decode cX2_lowerBy 57 = .ok (.lstore 6, 2) := by decide +kernel
theorem dX2_lowerBy_59 : decode cX2_lowerBy 59 = .ok (.lload 6, 2) := by decide +kernel
theorem dX2_lowerBy_61 : decode cX2_lowerBy 61 = .ok (.ldc2_w 87, 3) := by decide +kernel
theorem dX2_lowerBy_64 : decode cX2_lowerBy 64 = .ok (.lcmp, 1) := by decide +kernel
theorem dX2_lowerBy_65 : decode cX2_lowerBy 65 = .ok (.ifCond .eq 69, 3) := by decide +kernel
theorem dX2_lowerBy_68 : decode cX2_lowerBy 68 = .ok (.aload_n 1, 1) := by decide +kernel
theorem dX2_lowerBy_69 : decode cX2_lowerBy 69 = .ok (.getfield 102, 3) := by decide +kernel
theorem dX2_lowerBy_72 : decode cX2_lowerBy 72 = .ok (.iload_n 2, 1) := by decide +kernel
theorem dX2_lowerBy_73 : decode cX2_lowerBy 73 = .ok (.iaload, 1) := by decide +kernel
theorem dX2_lowerBy_74 : decode cX2_lowerBy 74 = .ok (.iconst (-1), 1) := by decide +kernel
theorem dX2_lowerBy_75 : decode cX2_lowerBy 75 = .ok (.if_icmp .ne 20, 3) := by decide +kernel
theorem dX2_lowerBy_78 : decode cX2_lowerBy 78 = .ok (.aload_n 0, 1) := by decide +kernel
theorem dX2_lowerBy_79 : decode cX2_lowerBy 79 = .ok (.aload_n 1, 1) := by decide +kernel
theorem dX2_lowerBy_80 : decode cX2_lowerBy 80 = .ok (.getfield 105, 3) := by decide +kernel
theorem dX2_lowerBy_83 : decode cX2_lowerBy 83 = .ok (.iload_n 2, 1) := by decide +kernel
theorem dX2_lowerBy_84 : decode cX2_lowerBy 84 = .ok (.iaload, 1) := by decide +kernel
theorem dX2_lowerBy_85 : decode cX2_lowerBy 85 = .ok (.iload 5, 2) := by decide +kernel
theorem dX2_lowerBy_87 : decode cX2_lowerBy 87 = .ok (.lload 6, 2) := by decide +kernel
theorem dX2_lowerBy_89 : decode cX2_lowerBy 89 = .ok (.invokevirtual 108, 3) := by decide +kernel
theorem dX2_lowerBy_92 : decode cX2_lowerBy 92 = .ok (.goto 23, 3) := by decide +kernel
theorem dX2_lowerBy_95 : decode cX2_lowerBy 95 = .ok (.aload_n 0, 1) := by decide +kernel
theorem dX2_lowerBy_96 : decode cX2_lowerBy 96 = .ok (.aload_n 1, 1) := by decide +kernel
theorem dX2_lowerBy_97 : decode cX2_lowerBy 97 = .ok (.getfield 105, 3) := by decide +kernel
theorem dX2_lowerBy_100 : decode cX2_lowerBy 100 = .ok (.iload_n 2, 1) := by decide +kernel
theorem dX2_lowerBy_101 : decode cX2_lowerBy 101 = .ok (.iaload, 1) := by decide +kernel
theorem dX2_lowerBy_102 : decode cX2_lowerBy 102 = .ok (.lload 6, 2) := by decide +kernel
theorem dX2_lowerBy_104 : decode cX2_lowerBy 104 = .ok (.iload 5, 2) := by decide +kernel
theorem dX2_lowerBy_106 : decode cX2_lowerBy 106 = .ok (.aload_n 1, 1) := by decide +kernel
theorem dX2_lowerBy_107 : decode cX2_lowerBy 107 = .ok (.getfield 102, 3) := by decide +kernel
theorem dX2_lowerBy_110 : decode cX2_lowerBy 110 = .ok (.iload_n 2, 1) := by decide +kernel
theorem dX2_lowerBy_111 : decode cX2_lowerBy 111 = .ok (.iaload, 1) := by decide +kernel
theorem dX2_lowerBy_112 : decode cX2_lowerBy 112 = .ok (.invokevirtual 112, 3) := by decide +kernel
theorem dX2_lowerBy_115 : decode cX2_lowerBy 115 = .ok (.istore 8, 2) := by decide +kernel
theorem dX2_lowerBy_117 : decode cX2_lowerBy 117 = .ok (.iload 8, 2) := by decide +kernel
theorem dX2_lowerBy_119 : decode cX2_lowerBy 119 = .ok (.ifCond .ne 8, 3) := by decide +kernel
theorem dX2_lowerBy_122 : decode cX2_lowerBy 122 = .ok (.iload 4, 2) := by decide +kernel
theorem dX2_lowerBy_124 : decode cX2_lowerBy 124 = .ok (.ifCond .eq 7, 3) := by decide +kernel
theorem dX2_lowerBy_127 : decode cX2_lowerBy 127 = .ok (.iconst 1, 1) := by decide +kernel
theorem dX2_lowerBy_128 : decode cX2_lowerBy 128 = .ok (.goto 4, 3) := by decide +kernel
theorem dX2_lowerBy_131 : decode cX2_lowerBy 131 = .ok (.iconst 0, 1) := by decide +kernel
theorem dX2_lowerBy_132 : decode cX2_lowerBy 132 = .ok (.istore 4, 2) := by decide +kernel
theorem dX2_lowerBy_134 : decode cX2_lowerBy 134 = .ok (.iinc 5 1, 3) := by decide +kernel
theorem dX2_lowerBy_137 : decode cX2_lowerBy 137 = .ok (.goto (-100), 3) := by decide +kernel
theorem dX2_lowerBy_140 : decode cX2_lowerBy 140 = .ok (.iload 4, 2) := by decide +kernel
theorem dX2_lowerBy_142 : decode cX2_lowerBy 142 = .ok (.ireturn, 1) := by decide +kernel
theorem dX2_lowerRow_0 : decode cX2_lowerRow 0 = .ok (.iconst 0, 1) := by decide +kernel
theorem dX2_lowerRow_1 : decode cX2_lowerRow 1 = .ok (.istore 6, 2) := by decide +kernel
theorem dX2_lowerRow_3 : decode cX2_lowerRow 3 = .ok (.iconst 5, 1) := by decide +kernel
theorem dX2_lowerRow_4 : decode cX2_lowerRow 4 = .ok (.istore 7, 2) := by decide +kernel
theorem dX2_lowerRow_6 : decode cX2_lowerRow 6 = .ok (.iload 7, 2) := by decide +kernel
theorem dX2_lowerRow_8 : decode cX2_lowerRow 8 = .ok (.bipush 11, 2) := by decide +kernel
theorem dX2_lowerRow_10 : decode cX2_lowerRow 10 = .ok (.if_icmp .ge 45, 3) := by decide +kernel
theorem dX2_lowerRow_13 : decode cX2_lowerRow 13 = .ok (.aload_n 0, 1) := by decide +kernel
theorem dX2_lowerRow_14 : decode cX2_lowerRow 14 = .ok (.iload_n 1, 1) := by decide +kernel
theorem dX2_lowerRow_15 : decode cX2_lowerRow 15 = .ok (.iload 7, 2) := by decide +kernel
theorem dX2_lowerRow_17 : decode cX2_lowerRow 17 = .ok (.lload_n 2, 1) := by decide +kernel
theorem dX2_lowerRow_18 : decode cX2_lowerRow 18 = .ok (.aload_n 0, 1) := by decide +kernel
theorem dX2_lowerRow_19 : decode cX2_lowerRow 19 = .ok (.iload 4, 2) := by decide +kernel
theorem dX2_lowerRow_21 : decode cX2_lowerRow 21 = .ok (.iload 5, 2) := by decide +kernel
theorem dX2_lowerRow_23 : decode cX2_lowerRow 23 = .ok (.iload 7, 2) := by decide +kernel
theorem dX2_lowerRow_25 : decode cX2_lowerRow 25 = .ok (.invokevirtual 116, 3) := by decide +kernel
theorem dX2_lowerRow_28 : decode cX2_lowerRow 28 = .ok (.invokestatic 98, 3) := by decide +kernel
theorem dX2_lowerRow_31 : decode cX2_lowerRow 31 = .ok (.invokevirtual 108, 3) := by decide +kernel
theorem dX2_lowerRow_34 : decode cX2_lowerRow 34 = .ok (.ifCond .ne 8, 3) := by decide +kernel
theorem dX2_lowerRow_37 : decode cX2_lowerRow 37 = .ok (.iload 6, 2) := by decide +kernel
theorem dX2_lowerRow_39 : decode cX2_lowerRow 39 = .ok (.ifCond .eq 7, 3) := by decide +kernel
theorem dX2_lowerRow_42 : decode cX2_lowerRow 42 = .ok (.iconst 1, 1) := by decide +kernel
theorem dX2_lowerRow_43 : decode cX2_lowerRow 43 = .ok (.goto 4, 3) := by decide +kernel
theorem dX2_lowerRow_46 : decode cX2_lowerRow 46 = .ok (.iconst 0, 1) := by decide +kernel
theorem dX2_lowerRow_47 : decode cX2_lowerRow 47 = .ok (.istore 6, 2) := by decide +kernel
theorem dX2_lowerRow_49 : decode cX2_lowerRow 49 = .ok (.iinc 7 1, 3) := by decide +kernel
theorem dX2_lowerRow_52 : decode cX2_lowerRow 52 = .ok (.goto (-46), 3) := by decide +kernel
theorem dX2_lowerRow_55 : decode cX2_lowerRow 55 = .ok (.iload 6, 2) := by decide +kernel
theorem dX2_lowerRow_57 : decode cX2_lowerRow 57 = .ok (.ireturn, 1) := by decide +kernel
theorem dX2_lower_0 : decode cX2_lower 0 = .ok (.lload_n 3, 1) := by decide +kernel
theorem dX2_lower_1 : decode cX2_lower 1 = .ok (.aload_n 0, 1) := by decide +kernel
theorem dX2_lower_2 : decode cX2_lower 2 = .ok (.getfield 22, 3) := by decide +kernel
theorem dX2_lower_5 : decode cX2_lower 5 = .ok (.iload_n 1, 1) := by decide +kernel
theorem dX2_lower_6 : decode cX2_lower 6 = .ok (.bipush 11, 2) := by decide +kernel
theorem dX2_lower_8 : decode cX2_lower 8 = .ok (.imul, 1) := by decide +kernel
theorem dX2_lower_9 : decode cX2_lower 9 = .ok (.iload_n 2, 1) := by decide +kernel
theorem dX2_lower_10 : decode cX2_lower 10 = .ok (.iadd, 1) := by decide +kernel
theorem dX2_lower_11 : decode cX2_lower 11 = .ok (.laload, 1) := by decide +kernel
theorem dX2_lower_12 : decode cX2_lower 12 = .ok (.lcmp, 1) := by decide +kernel
theorem dX2_lower_13 : decode cX2_lower 13 = .ok (.ifCond .lt 5, 3) := by decide +kernel
theorem dX2_lower_16 : decode cX2_lower 16 = .ok (.iconst 0, 1) := by decide +kernel
theorem dX2_lower_17 : decode cX2_lower 17 = .ok (.ireturn, 1) := by decide +kernel
theorem dX2_lower_18 : decode cX2_lower 18 = .ok (.aload_n 0, 1) := by decide +kernel
theorem dX2_lower_19 : decode cX2_lower 19 = .ok (.getfield 22, 3) := by decide +kernel
theorem dX2_lower_22 : decode cX2_lower 22 = .ok (.iload_n 1, 1) := by decide +kernel
theorem dX2_lower_23 : decode cX2_lower 23 = .ok (.bipush 11, 2) := by decide +kernel
theorem dX2_lower_25 : decode cX2_lower 25 = .ok (.imul, 1) := by decide +kernel
theorem dX2_lower_26 : decode cX2_lower 26 = .ok (.iload_n 2, 1) := by decide +kernel
theorem dX2_lower_27 : decode cX2_lower 27 = .ok (.iadd, 1) := by decide +kernel
theorem dX2_lower_28 : decode cX2_lower 28 = .ok (.lload_n 3, 1) := by decide +kernel
theorem dX2_lower_29 : decode cX2_lower 29 = .ok (.lastore, 1) := by decide +kernel
theorem dX2_lower_30 : decode cX2_lower 30 = .ok (.iconst 1, 1) := by decide +kernel
theorem dX2_lower_31 : decode cX2_lower 31 = .ok (.ireturn, 1) := by decide +kernel
theorem dX2_through_0 : decode cX2_through 0 = .ok (.iload_n 1, 1) := by decide +kernel
theorem dX2_through_1 : decode cX2_through 1 = .ok (.iconst 5, 1) := by decide +kernel
theorem dX2_through_2 : decode cX2_through 2 = .ok (.if_icmp .ge 19, 3) := by decide +kernel
theorem dX2_through_5 : decode cX2_through 5 = .ok (.aload_n 0, 1) := by decide +kernel
theorem dX2_through_6 : decode cX2_through 6 = .ok (.getfield 22, 3) := by decide +kernel
theorem dX2_through_9 : decode cX2_through 9 = .ok (.iload_n 1, 1) := by decide +kernel
theorem dX2_through_10 : decode cX2_through 10 = .ok (.iload_n 2, 1) := by decide +kernel
theorem dX2_through_11 : decode cX2_through 11 = .ok (.invokestatic 95, 3) := by decide +kernel
theorem dX2_through_14 : decode cX2_through 14 = .ok (.bipush 11, 2) := by decide +kernel
theorem dX2_through_16 : decode cX2_through 16 = .ok (.imul, 1) := by decide +kernel
theorem dX2_through_17 : decode cX2_through 17 = .ok (.iload_n 3, 1) := by decide +kernel
theorem dX2_through_18 : decode cX2_through 18 = .ok (.iadd, 1) := by decide +kernel
theorem dX2_through_19 : decode cX2_through 19 = .ok (.laload, 1) := by decide +kernel
theorem dX2_through_20 : decode cX2_through 20 = .ok (.lreturn, 1) := by decide +kernel
theorem dX2_through_21 : decode cX2_through 21 = .ok (.iload_n 3, 1) := by decide +kernel
theorem dX2_through_22 : decode cX2_through 22 = .ok (.iconst 5, 1) := by decide +kernel
theorem dX2_through_23 : decode cX2_through 23 = .ok (.if_icmp .lt 19, 3) := by decide +kernel
theorem dX2_through_26 : decode cX2_through 26 = .ok (.aload_n 0, 1) := by decide +kernel
theorem dX2_through_27 : decode cX2_through 27 = .ok (.iload_n 1, 1) := by decide +kernel
theorem dX2_through_28 : decode cX2_through 28 = .ok (.iload_n 2, 1) := by decide +kernel
theorem dX2_through_29 : decode cX2_through 29 = .ok (.iload_n 3, 1) := by decide +kernel
theorem dX2_through_30 : decode cX2_through 30 = .ok (.iconst 5, 1) := by decide +kernel
theorem dX2_through_31 : decode cX2_through 31 = .ok (.isub, 1) := by decide +kernel
theorem dX2_through_32 : decode cX2_through 32 = .ok (.invokevirtual 83, 3) := by decide +kernel
theorem dX2_through_35 : decode cX2_through 35 = .ok (.ifCond .eq 7, 3) := by decide +kernel
theorem dX2_through_38 : decode cX2_through 38 = .ok (.lconst 0, 1) := by decide +kernel
theorem dX2_through_39 : decode cX2_through 39 = .ok (.goto 6, 3) := by decide +kernel
theorem dX2_through_42 : decode cX2_through 42 = .ok (.ldc2_w 87, 3) := by decide +kernel
theorem dX2_through_45 : decode cX2_through 45 = .ok (.lreturn, 1) := by decide +kernel
end
section
theorem dX3_init_0 : decode cX3_init 0 = .ok (.aload_n 0, 1) := by decide +kernel
theorem dX3_init_1 : decode cX3_init 1 = .ok (.invokespecial 3, 3) := by decide +kernel
theorem dX3_init_4 : decode cX3_init 4 = .ok (.aload_n 0, 1) := by decide +kernel
theorem dX3_init_5 : decode cX3_init 5 = .ok (.bipush 125, 2) := by decide +kernel
theorem dX3_init_7 : decode cX3_init 7 = .ok (.newarray .long, 2) := by decide +kernel
theorem dX3_init_9 : decode cX3_init 9 = .ok (.putfield 9, 3) := by decide +kernel
theorem dX3_init_12 : decode cX3_init 12 = .ok (.aload_n 0, 1) := by decide +kernel
theorem dX3_init_13 : decode cX3_init 13 = .ok (.iconst (-1), 1) := by decide +kernel
theorem dX3_init_14 : decode cX3_init 14 = .ok (.putfield 15, 3) := by decide +kernel
theorem dX3_init_17 : decode cX3_init 17 = .ok (.return_, 1) := by decide +kernel
theorem dX3_renew_0 : decode cX3_renew 0 = .ok (.aload_n 0, 1) := by decide +kernel
theorem dX3_renew_1 : decode cX3_renew 1 = .ok (.getfield 15, 3) := by decide +kernel
theorem dX3_renew_4 : decode cX3_renew 4 = .ok (.aload_n 1, 1) := by decide +kernel
theorem dX3_renew_5 : decode cX3_renew 5 = .ok (.getfield 19, 3) := by decide +kernel
theorem dX3_renew_8 : decode cX3_renew 8 = .ok (.if_icmp .ne 4, 3) := by decide +kernel
theorem dX3_renew_11 : decode cX3_renew 11 = .ok (.return_, 1) := by decide +kernel
theorem dX3_renew_12 : decode cX3_renew 12 = .ok (.aload_n 0, 1) := by decide +kernel
theorem dX3_renew_13 : decode cX3_renew 13 = .ok (.aload_n 1, 1) := by decide +kernel
theorem dX3_renew_14 : decode cX3_renew 14 = .ok (.getfield 19, 3) := by decide +kernel
theorem dX3_renew_17 : decode cX3_renew 17 = .ok (.putfield 15, 3) := by decide +kernel
theorem dX3_renew_20 : decode cX3_renew 20 = .ok (.aload_n 0, 1) := by decide +kernel
theorem dX3_renew_21 : decode cX3_renew 21 = .ok (.getfield 9, 3) := by decide +kernel
theorem dX3_renew_24 : decode cX3_renew 24 = .ok (.ldc2_w 24, 3) := by decide +kernel
theorem dX3_renew_27 : decode cX3_renew 27 = .ok (.invokestatic 26, 3) := by decide +kernel
theorem dX3_renew_30 : decode cX3_renew 30 = .ok (.iconst 1, 1) := by decide +kernel
theorem dX3_renew_31 : decode cX3_renew 31 = .ok (.istore_n 2, 1) := by decide +kernel
theorem dX3_renew_32 : decode cX3_renew 32 = .ok (.iconst 0, 1) := by decide +kernel
theorem dX3_renew_33 : decode cX3_renew 33 = .ok (.istore_n 3, 1) := by decide +kernel
theorem dX3_renew_34 : decode cX3_renew 34 = .ok (.iload_n 2, 1) := by decide +kernel
theorem dX3_renew_35 : decode cX3_renew 35 = .ok (.ifCond .eq 58, 3) := by decide +kernel
theorem dX3_renew_38 : decode cX3_renew 38 = .ok (.iload_n 3, 1) := by decide +kernel
theorem dX3_renew_39 : decode cX3_renew 39 = .ok (.aload_n 0, 1) := by decide +kernel
theorem dX3_renew_40 : decode cX3_renew 40 = .ok (.getfield 9, 3) := by decide +kernel
theorem dX3_renew_43 : decode cX3_renew 43 = .ok (.arraylength, 1) := by decide +kernel
theorem dX3_renew_44 : decode cX3_renew 44 = .ok (.if_icmp .gt 49, 3) := by decide +kernel
theorem dX3_renew_47 : decode cX3_renew 47 = .ok (.iconst 0, 1) := by decide +kernel
theorem dX3_renew_48 : decode cX3_renew 48 = .ok (.istore_n 2, 1) := by decide +kernel
theorem dX3_renew_49 : decode cX3_renew 49 = .ok (.iconst 0, 1) := by decide +kernel
theorem dX3_renew_50 : decode cX3_renew 50 = .ok (.istore 4, 2) := by decide +kernel
theorem dX3_renew_52 : decode cX3_renew 52 = .ok (.iload 4, 2) := by decide +kernel
theorem dX3_renew_54 : decode cX3_renew 54 = .ok (.aload_n 1, 1) := by decide +kernel
theorem dX3_renew_55 : decode cX3_renew 55 = .ok (.getfield 32, 3) := by decide +kernel
theorem dX3_renew_58 : decode cX3_renew 58 = .ok (.if_icmp .ge 29, 3) := by decide +kernel
theorem dX3_renew_61 : decode cX3_renew 61 = .ok (.aload_n 0, 1) := by decide +kernel
theorem dX3_renew_62 : decode cX3_renew 62 = .ok (.aload_n 1, 1) := by decide +kernel
theorem dX3_renew_63 : decode cX3_renew 63 = .ok (.iload 4, 2) := by decide +kernel
theorem dX3_renew_65 : decode cX3_renew 65 = .ok (.invokevirtual 35, 3) := by decide +kernel
theorem dX3_renew_68 : decode cX3_renew 68 = .ok (.ifCond .ne 7, 3) := by decide +kernel
theorem dX3_renew_71 : decode cX3_renew 71 = .ok (.iload_n 2, 1) := by decide +kernel
theorem dX3_renew_72 : decode cX3_renew 72 = .ok (.ifCond .eq 7, 3) := by decide +kernel
theorem dX3_renew_75 : decode cX3_renew 75 = .ok (.iconst 1, 1) := by decide +kernel
theorem dX3_renew_76 : decode cX3_renew 76 = .ok (.goto 4, 3) := by decide +kernel
theorem dX3_renew_79 : decode cX3_renew 79 = .ok (.iconst 0, 1) := by decide +kernel
theorem dX3_renew_80 : decode cX3_renew 80 = .ok (.istore_n 2, 1) := by decide +kernel
theorem dX3_renew_81 : decode cX3_renew 81 = .ok (.iinc 4 1, 3) := by decide +kernel
theorem dX3_renew_84 : decode cX3_renew 84 = .ok (.goto (-32), 3) := by decide +kernel
theorem dX3_renew_87 : decode cX3_renew 87 = .ok (.iinc 3 1, 3) := by decide +kernel
theorem dX3_renew_90 : decode cX3_renew 90 = .ok (.goto (-56), 3) := by decide +kernel
theorem dX3_renew_93 : decode cX3_renew 93 = .ok (.return_, 1) := by decide +kernel
theorem dX3_lowerBy_0 : decode cX3_lowerBy 0 = .ok (.aload_n 1, 1) := by decide +kernel
theorem dX3_lowerBy_1 : decode cX3_lowerBy 1 = .ok (.getfield 39, 3) := by decide +kernel
theorem dX3_lowerBy_4 : decode cX3_lowerBy 4 = .ok (.iload_n 2, 1) := by decide +kernel
theorem dX3_lowerBy_5 : decode cX3_lowerBy 5 = .ok (.iaload, 1) := by decide +kernel
theorem dX3_lowerBy_6 : decode cX3_lowerBy 6 = .ok (.iconst 5, 1) := by decide +kernel
theorem dX3_lowerBy_7 : decode cX3_lowerBy 7 = .ok (.imul, 1) := by decide +kernel
theorem dX3_lowerBy_8 : decode cX3_lowerBy 8 = .ok (.istore_n 3, 1) := by decide +kernel
theorem dX3_lowerBy_9 : decode cX3_lowerBy 9 = .ok (.aload_n 1, 1) := by decide +kernel
theorem dX3_lowerBy_10 : decode cX3_lowerBy 10 = .ok (.getfield 43, 3) := by decide +kernel
theorem dX3_lowerBy_13 : decode cX3_lowerBy 13 = .ok (.iload_n 2, 1) := by decide +kernel
theorem dX3_lowerBy_14 : decode cX3_lowerBy 14 = .ok (.iaload, 1) := by decide +kernel
theorem dX3_lowerBy_15 : decode cX3_lowerBy 15 = .ok (.iconst (-1), 1) := by decide +kernel
theorem dX3_lowerBy_16 : decode cX3_lowerBy 16 = .ok (.if_icmp .ne 17, 3) := by decide +kernel
theorem dX3_lowerBy_19 : decode cX3_lowerBy 19 = .ok (.aload_n 0, 1) := by decide +kernel
theorem dX3_lowerBy_20 : decode cX3_lowerBy 20 = .ok (.iload_n 3, 1) := by decide +kernel
theorem dX3_lowerBy_21 : decode cX3_lowerBy 21 = .ok (.aload_n 1, 1) := by decide +kernel
theorem dX3_lowerBy_22 : decode cX3_lowerBy 22 = .ok (.getfield 46, 3) := by decide +kernel
theorem dX3_lowerBy_25 : decode cX3_lowerBy 25 = .ok (.iload_n 2, 1) := by decide +kernel
theorem dX3_lowerBy_26 : decode cX3_lowerBy 26 = .ok (.iaload, 1) := by decide +kernel
theorem dX3_lowerBy_27 : decode cX3_lowerBy 27 = .ok (.iadd, 1) := by decide +kernel
theorem dX3_lowerBy_28 : decode cX3_lowerBy 28 = .ok (.lconst 1, 1) := by decide +kernel
theorem dX3_lowerBy_29 : decode cX3_lowerBy 29 = .ok (.invokevirtual 49, 3) := by decide +kernel
theorem dX3_lowerBy_32 : decode cX3_lowerBy 32 = .ok (.ireturn, 1) := by decide +kernel
theorem dX3_lowerBy_33 : decode cX3_lowerBy 33 = .ok (.aload_n 1, 1) := by decide +kernel
theorem dX3_lowerBy_34 : decode cX3_lowerBy 34 = .ok (.getfield 46, 3) := by decide +kernel
theorem dX3_lowerBy_37 : decode cX3_lowerBy 37 = .ok (.iload_n 2, 1) := by decide +kernel
theorem dX3_lowerBy_38 : decode cX3_lowerBy 38 = .ok (.iaload, 1) := by decide +kernel
theorem dX3_lowerBy_39 : decode cX3_lowerBy 39 = .ok (.aload_n 1, 1) := by decide +kernel
theorem dX3_lowerBy_40 : decode cX3_lowerBy 40 = .ok (.getfield 43, 3) := by decide +kernel
theorem dX3_lowerBy_43 : decode cX3_lowerBy 43 = .ok (.iload_n 2, 1) := by decide +kernel
theorem dX3_lowerBy_44 : decode cX3_lowerBy 44 = .ok (.iaload, 1) := by decide +kernel
theorem dX3_lowerBy_45 : decode cX3_lowerBy 45 = .ok (.invokestatic 53, 3) := by decide +kernel
theorem dX3_lowerBy_48 : decode cX3_lowerBy 48 = .ok (.iconst 5, 1) := by decide +kernel
theorem dX3_lowerBy_49 : decode cX3_lowerBy 49 = .ok (.imul, 1) := by decide +kernel
theorem dX3_lowerBy_50 : decode cX3_lowerBy 50 = .ok (.istore 4, 2) := by decide +kernel
theorem dX3_lowerBy_52 : decode cX3_lowerBy 52 = .ok (.iconst 0, 1) := by decide +kernel
theorem dX3_lowerBy_53 : decode cX3_lowerBy 53 = .ok (.istore 5, 2) := by decide +kernel
theorem dX3_lowerBy_55 : decode cX3_lowerBy 55 = .ok (.iconst 0, 1) := by decide +kernel
theorem dX3_lowerBy_56 : decode cX3_lowerBy 56 = .ok (.istore 6, 2) := by decide +kernel
theorem dX3_lowerBy_58 : decode cX3_lowerBy 58 = .ok (.iload 6, 2) := by decide +kernel
theorem dX3_lowerBy_60 : decode cX3_lowerBy 60 = .ok (.aload_n 1, 1) := by decide +kernel
theorem dX3_lowerBy_61 : decode cX3_lowerBy 61 = .ok (.getfield 57, 3) := by decide +kernel
theorem dX3_lowerBy_64 : decode cX3_lowerBy 64 = .ok (.if_icmp .ge 95, 3) := by decide +kernel
theorem dX3_lowerBy_67 : decode cX3_lowerBy 67 = .ok (.lconst 1, 1) := by decide +kernel
theorem dX3_lowerBy_68 : decode cX3_lowerBy 68 = .ok (.aload_n 0, 1) := by decide +kernel
theorem dX3_lowerBy_69 : decode cX3_lowerBy 69 = .ok (.getfield 9, 3) := by decide +kernel
theorem dX3_lowerBy_72 : decode cX3_lowerBy 72 = .ok (.iload 4, 2) := by decide +kernel
theorem dX3_lowerBy_74 : decode cX3_lowerBy 74 = .ok (.iload 6, 2) := by decide +kernel
theorem dX3_lowerBy_76 : decode cX3_lowerBy 76 = .ok (.iadd, 1) := by decide +kernel
theorem dX3_lowerBy_77 : decode cX3_lowerBy 77 = .ok (.laload, 1) := by decide +kernel
theorem dX3_lowerBy_78 : decode cX3_lowerBy 78 = .ok (.invokestatic 60, 3) := by decide +kernel
theorem dX3_lowerBy_81 : decode cX3_lowerBy 81 = .ok (.lstore 7, 2) := by decide +kernel
theorem dX3_lowerBy_83 : decode cX3_lowerBy 83 = .ok (.lload 7, 2) := by decide +kernel
theorem dX3_lowerBy_85 : decode cX3_lowerBy 85 = .ok (.ldc2_w 24, 3) := by decide +kernel
theorem dX3_lowerBy_88 : decode cX3_lowerBy 88 = .ok (.lcmp, 1) := by decide +kernel
theorem dX3_lowerBy_89 : decode cX3_lowerBy 89 = .ok (.ifCond .eq 64, 3) := by decide +kernel
theorem dX3_lowerBy_92 : decode cX3_lowerBy 92 = .ok (.aload_n 1, 1) := by decide +kernel
theorem dX3_lowerBy_93 : decode cX3_lowerBy 93 = .ok (.getfield 64, 3) := by decide +kernel
theorem dX3_lowerBy_96 : decode cX3_lowerBy 96 = .ok (.iload_n 2, 1) := by decide +kernel
theorem dX3_lowerBy_97 : decode cX3_lowerBy 97 = .ok (.iaload, 1) := by decide +kernel
theorem dX3_lowerBy_98 : decode cX3_lowerBy 98 = .ok (.iconst (-1), 1) := by decide +kernel
theorem dX3_lowerBy_99 : decode cX3_lowerBy 99 = .ok (.if_icmp .ne 16, 3) := by decide +kernel
theorem dX3_lowerBy_102 : decode cX3_lowerBy 102 = .ok (.aload_n 0, 1) := by decide +kernel
theorem dX3_lowerBy_103 : decode cX3_lowerBy 103 = .ok (.iload_n 3, 1) := by decide +kernel
theorem dX3_lowerBy_104 : decode cX3_lowerBy 104 = .ok (.iload 6, 2) := by decide +kernel
theorem dX3_lowerBy_106 : decode cX3_lowerBy 106 = .ok (.iadd, 1) := by decide +kernel
theorem dX3_lowerBy_107 : decode cX3_lowerBy 107 = .ok (.lload 7, 2) := by decide +kernel
theorem dX3_lowerBy_109 : decode cX3_lowerBy 109 = .ok (.invokevirtual 49, 3) := by decide +kernel
theorem dX3_lowerBy_112 : decode cX3_lowerBy 112 = .ok (.goto 22, 3) := by decide +kernel
theorem dX3_lowerBy_115 : decode cX3_lowerBy 115 = .ok (.aload_n 0, 1) := by decide +kernel
theorem dX3_lowerBy_116 : decode cX3_lowerBy 116 = .ok (.aload_n 1, 1) := by decide +kernel
theorem dX3_lowerBy_117 : decode cX3_lowerBy 117 = .ok (.iload_n 3, 1) := by decide +kernel
theorem dX3_lowerBy_118 : decode cX3_lowerBy 118 = .ok (.lload 7, 2) := by decide +kernel
theorem dX3_lowerBy_120 : decode cX3_lowerBy 120 = .ok (.iload 6, 2) := by decide +kernel
theorem dX3_lowerBy_122 : decode cX3_lowerBy 122 = .ok (.aload_n 1, 1) := by decide +kernel
theorem dX3_lowerBy_123 : decode cX3_lowerBy 123 = .ok (.getfield 64, 3) := by decide +kernel
theorem dX3_lowerBy_126 : decode cX3_lowerBy 126 = .ok (.iload_n 2, 1) := by decide +kernel
theorem dX3_lowerBy_127 : decode cX3_lowerBy 127 = .ok (.iaload, 1) := by decide +kernel
theorem dX3_lowerBy_128 : decode cX3_lowerBy 128 = .ok (.invokestatic 53, 3) := by decide +kernel
theorem dX3_lowerBy_131 : decode cX3_lowerBy 131 = .ok (.invokevirtual 67, 3) := by decide +kernel
theorem dX3_lowerBy_134 : decode cX3_lowerBy 134 = .ok (.istore 9, 2) := by decide +kernel
theorem dX3_lowerBy_136 : decode cX3_lowerBy 136 = .ok (.iload 9, 2) := by decide +kernel
theorem dX3_lowerBy_138 : decode cX3_lowerBy 138 = .ok (.ifCond .ne 8, 3) := by decide +kernel
theorem dX3_lowerBy_141 : decode cX3_lowerBy 141 = .ok (.iload 5, 2) := by decide +kernel
theorem dX3_lowerBy_143 : decode cX3_lowerBy 143 = .ok (.ifCond .eq 7, 3) := by decide +kernel
theorem dX3_lowerBy_146 : decode cX3_lowerBy 146 = .ok (.iconst 1, 1) := by decide +kernel
theorem dX3_lowerBy_147 : decode cX3_lowerBy 147 = .ok (.goto 4, 3) := by decide +kernel
theorem dX3_lowerBy_150 : decode cX3_lowerBy 150 = .ok (.iconst 0, 1) := by decide +kernel
theorem dX3_lowerBy_151 : decode cX3_lowerBy 151 = .ok (.istore 5, 2) := by decide +kernel
theorem dX3_lowerBy_153 : decode cX3_lowerBy 153 = .ok (.iinc 6 1, 3) := by decide +kernel
theorem dX3_lowerBy_156 : decode cX3_lowerBy 156 = .ok (.goto (-98), 3) := by decide +kernel
theorem dX3_lowerBy_159 : decode cX3_lowerBy 159 = .ok (.iload 5, 2) := by decide +kernel
theorem dX3_lowerBy_161 : decode cX3_lowerBy 161 = .ok (.ireturn, 1) := by decide +kernel
theorem dX3_lowerRow_0 : decode cX3_lowerRow 0 = .ok (.iconst 0, 1) := by decide +kernel
theorem dX3_lowerRow_1 : decode cX3_lowerRow 1 = .ok (.istore 6, 2) := by decide +kernel
theorem dX3_lowerRow_3 : decode cX3_lowerRow 3 = .ok (.iconst 0, 1) := by decide +kernel
theorem dX3_lowerRow_4 : decode cX3_lowerRow 4 = .ok (.istore 7, 2) := by decide +kernel
theorem dX3_lowerRow_6 : decode cX3_lowerRow 6 = .ok (.iload 7, 2) := by decide +kernel
theorem dX3_lowerRow_8 : decode cX3_lowerRow 8 = .ok (.aload_n 1, 1) := by decide +kernel
theorem dX3_lowerRow_9 : decode cX3_lowerRow 9 = .ok (.getfield 57, 3) := by decide +kernel
theorem dX3_lowerRow_12 : decode cX3_lowerRow 12 = .ok (.if_icmp .ge 48, 3) := by decide +kernel
theorem dX3_lowerRow_15 : decode cX3_lowerRow 15 = .ok (.aload_n 0, 1) := by decide +kernel
theorem dX3_lowerRow_16 : decode cX3_lowerRow 16 = .ok (.iload_n 2, 1) := by decide +kernel
theorem dX3_lowerRow_17 : decode cX3_lowerRow 17 = .ok (.iload 7, 2) := by decide +kernel
theorem dX3_lowerRow_19 : decode cX3_lowerRow 19 = .ok (.iadd, 1) := by decide +kernel
theorem dX3_lowerRow_20 : decode cX3_lowerRow 20 = .ok (.lload_n 3, 1) := by decide +kernel
theorem dX3_lowerRow_21 : decode cX3_lowerRow 21 = .ok (.aload_n 0, 1) := by decide +kernel
theorem dX3_lowerRow_22 : decode cX3_lowerRow 22 = .ok (.getfield 9, 3) := by decide +kernel
theorem dX3_lowerRow_25 : decode cX3_lowerRow 25 = .ok (.iload 5, 2) := by decide +kernel
theorem dX3_lowerRow_27 : decode cX3_lowerRow 27 = .ok (.iconst 5, 1) := by decide +kernel
theorem dX3_lowerRow_28 : decode cX3_lowerRow 28 = .ok (.imul, 1) := by decide +kernel
theorem dX3_lowerRow_29 : decode cX3_lowerRow 29 = .ok (.iload 7, 2) := by decide +kernel
theorem dX3_lowerRow_31 : decode cX3_lowerRow 31 = .ok (.iadd, 1) := by decide +kernel
theorem dX3_lowerRow_32 : decode cX3_lowerRow 32 = .ok (.laload, 1) := by decide +kernel
theorem dX3_lowerRow_33 : decode cX3_lowerRow 33 = .ok (.invokestatic 60, 3) := by decide +kernel
theorem dX3_lowerRow_36 : decode cX3_lowerRow 36 = .ok (.invokevirtual 49, 3) := by decide +kernel
theorem dX3_lowerRow_39 : decode cX3_lowerRow 39 = .ok (.ifCond .ne 8, 3) := by decide +kernel
theorem dX3_lowerRow_42 : decode cX3_lowerRow 42 = .ok (.iload 6, 2) := by decide +kernel
theorem dX3_lowerRow_44 : decode cX3_lowerRow 44 = .ok (.ifCond .eq 7, 3) := by decide +kernel
theorem dX3_lowerRow_47 : decode cX3_lowerRow 47 = .ok (.iconst 1, 1) := by decide +kernel
theorem dX3_lowerRow_48 : decode cX3_lowerRow 48 = .ok (.goto 4, 3) := by decide +kernel
theorem dX3_lowerRow_51 : decode cX3_lowerRow 51 = .ok (.iconst 0, 1) := by decide +kernel
theorem dX3_lowerRow_52 : decode cX3_lowerRow 52 = .ok (.istore 6, 2) := by decide +kernel
theorem dX3_lowerRow_54 : decode cX3_lowerRow 54 = .ok (.iinc 7 1, 3) := by decide +kernel
theorem dX3_lowerRow_57 : decode cX3_lowerRow 57 = .ok (.goto (-51), 3) := by decide +kernel
theorem dX3_lowerRow_60 : decode cX3_lowerRow 60 = .ok (.iload 6, 2) := by decide +kernel
theorem dX3_lowerRow_62 : decode cX3_lowerRow 62 = .ok (.ireturn, 1) := by decide +kernel
theorem dX3_lower_0 : decode cX3_lower 0 = .ok (.lload_n 2, 1) := by decide +kernel
theorem dX3_lower_1 : decode cX3_lower 1 = .ok (.aload_n 0, 1) := by decide +kernel
theorem dX3_lower_2 : decode cX3_lower 2 = .ok (.getfield 9, 3) := by decide +kernel
theorem dX3_lower_5 : decode cX3_lower 5 = .ok (.iload_n 1, 1) := by decide +kernel
theorem dX3_lower_6 : decode cX3_lower 6 = .ok (.laload, 1) := by decide +kernel
theorem dX3_lower_7 : decode cX3_lower 7 = .ok (.lcmp, 1) := by decide +kernel
theorem dX3_lower_8 : decode cX3_lower 8 = .ok (.ifCond .lt 5, 3) := by decide +kernel
theorem dX3_lower_11 : decode cX3_lower 11 = .ok (.iconst 0, 1) := by decide +kernel
theorem dX3_lower_12 : decode cX3_lower 12 = .ok (.ireturn, 1) := by decide +kernel
theorem dX3_lower_13 : decode cX3_lower 13 = .ok (.aload_n 0, 1) := by decide +kernel
theorem dX3_lower_14 : decode cX3_lower 14 = .ok (.getfield 9, 3) := by decide +kernel
theorem dX3_lower_17 : decode cX3_lower 17 = .ok (.iload_n 1, 1) := by decide +kernel
theorem dX3_lower_18 : decode cX3_lower 18 = .ok (.lload_n 2, 1) := by decide +kernel
theorem dX3_lower_19 : decode cX3_lower 19 = .ok (.lastore, 1) := by decide +kernel
theorem dX3_lower_20 : decode cX3_lower 20 = .ok (.iconst 1, 1) := by decide +kernel
theorem dX3_lower_21 : decode cX3_lower 21 = .ok (.ireturn, 1) := by decide +kernel
end
section
theorem dX4_init_0 : decode cX4_init 0 = .ok (.aload_n 0, 1) := by decide +kernel
theorem dX4_init_1 : decode cX4_init 1 = .ok (.invokespecial 3, 3) := by decide +kernel
theorem dX4_init_4 : decode cX4_init 4 = .ok (.aload_n 0, 1) := by decide +kernel
theorem dX4_init_5 : decode cX4_init 5 = .ok (.iconst 2, 1) := by decide +kernel
theorem dX4_init_6 : decode cX4_init 6 = .ok (.putfield 9, 3) := by decide +kernel
theorem dX4_init_9 : decode cX4_init 9 = .ok (.aload_n 0, 1) := by decide +kernel
theorem dX4_init_10 : decode cX4_init 10 = .ok (.iconst 2, 1) := by decide +kernel
theorem dX4_init_11 : decode cX4_init 11 = .ok (.putfield 15, 3) := by decide +kernel
theorem dX4_init_14 : decode cX4_init 14 = .ok (.aload_n 0, 1) := by decide +kernel
theorem dX4_init_15 : decode cX4_init 15 = .ok (.iconst 0, 1) := by decide +kernel
theorem dX4_init_16 : decode cX4_init 16 = .ok (.putfield 18, 3) := by decide +kernel
theorem dX4_init_19 : decode cX4_init 19 = .ok (.aload_n 0, 1) := by decide +kernel
theorem dX4_init_20 : decode cX4_init 20 = .ok (.iconst 0, 1) := by decide +kernel
theorem dX4_init_21 : decode cX4_init 21 = .ok (.putfield 21, 3) := by decide +kernel
theorem dX4_init_24 : decode cX4_init 24 = .ok (.aload_n 0, 1) := by decide +kernel
theorem dX4_init_25 : decode cX4_init 25 = .ok (.bipush 30, 2) := by decide +kernel
theorem dX4_init_27 : decode cX4_init 27 = .ok (.newarray .int, 2) := by decide +kernel
theorem dX4_init_29 : decode cX4_init 29 = .ok (.putfield 24, 3) := by decide +kernel
theorem dX4_init_32 : decode cX4_init 32 = .ok (.aload_n 0, 1) := by decide +kernel
theorem dX4_init_33 : decode cX4_init 33 = .ok (.bipush 30, 2) := by decide +kernel
theorem dX4_init_35 : decode cX4_init 35 = .ok (.newarray .int, 2) := by decide +kernel
theorem dX4_init_37 : decode cX4_init 37 = .ok (.putfield 28, 3) := by decide +kernel
theorem dX4_init_40 : decode cX4_init 40 = .ok (.aload_n 0, 1) := by decide +kernel
theorem dX4_init_41 : decode cX4_init 41 = .ok (.bipush 30, 2) := by decide +kernel
theorem dX4_init_43 : decode cX4_init 43 = .ok (.newarray .int, 2) := by decide +kernel
theorem dX4_init_45 : decode cX4_init 45 = .ok (.putfield 31, 3) := by decide +kernel
theorem dX4_init_48 : decode cX4_init 48 = .ok (.aload_n 0, 1) := by decide +kernel
theorem dX4_init_49 : decode cX4_init 49 = .ok (.bipush 30, 2) := by decide +kernel
theorem dX4_init_51 : decode cX4_init 51 = .ok (.newarray .int, 2) := by decide +kernel
theorem dX4_init_53 : decode cX4_init 53 = .ok (.putfield 34, 3) := by decide +kernel
theorem dX4_init_56 : decode cX4_init 56 = .ok (.return_, 1) := by decide +kernel
theorem dX4_restart_0 : decode cX4_restart 0 = .ok (.aload_n 0, 1) := by decide +kernel
theorem dX4_restart_1 : decode cX4_restart 1 = .ok (.iload_n 1, 1) := by decide +kernel
theorem dX4_restart_2 : decode cX4_restart 2 = .ok (.putfield 9, 3) := by decide +kernel
theorem dX4_restart_5 : decode cX4_restart 5 = .ok (.aload_n 0, 1) := by decide +kernel
theorem dX4_restart_6 : decode cX4_restart 6 = .ok (.iload_n 2, 1) := by decide +kernel
theorem dX4_restart_7 : decode cX4_restart 7 = .ok (.putfield 15, 3) := by decide +kernel
theorem dX4_restart_10 : decode cX4_restart 10 = .ok (.aload_n 0, 1) := by decide +kernel
theorem dX4_restart_11 : decode cX4_restart 11 = .ok (.iconst 0, 1) := by decide +kernel
theorem dX4_restart_12 : decode cX4_restart 12 = .ok (.putfield 18, 3) := by decide +kernel
theorem dX4_restart_15 : decode cX4_restart 15 = .ok (.aload_n 0, 1) := by decide +kernel
theorem dX4_restart_16 : decode cX4_restart 16 = .ok (.dup, 1) := by decide +kernel
theorem dX4_restart_17 : decode cX4_restart 17 = .ok (.getfield 21, 3) := by decide +kernel
theorem dX4_restart_20 : decode cX4_restart 20 = .ok (.iconst 1, 1) := by decide +kernel
theorem dX4_restart_21 : decode cX4_restart 21 = .ok (.iadd, 1) := by decide +kernel
theorem dX4_restart_22 : decode cX4_restart 22 = .ok (.putfield 21, 3) := by decide +kernel
theorem dX4_restart_25 : decode cX4_restart 25 = .ok (.return_, 1) := by decide +kernel
theorem dX4_isControl_0 : decode cX4_isControl 0 = .ok (.iload_n 1, 1) := by decide +kernel
theorem dX4_isControl_1 : decode cX4_isControl 1 = .ok (.ifCond .lt 15, 3) := by decide +kernel
theorem dX4_isControl_4 : decode cX4_isControl 4 = .ok (.iload_n 1, 1) := by decide +kernel
theorem dX4_isControl_5 : decode cX4_isControl 5 = .ok (.aload_n 0, 1) := by decide +kernel
theorem dX4_isControl_6 : decode cX4_isControl 6 = .ok (.getfield 9, 3) := by decide +kernel
theorem dX4_isControl_9 : decode cX4_isControl 9 = .ok (.if_icmp .ge 7, 3) := by decide +kernel
theorem dX4_isControl_12 : decode cX4_isControl 12 = .ok (.iconst 1, 1) := by decide +kernel
theorem dX4_isControl_13 : decode cX4_isControl 13 = .ok (.goto 4, 3) := by decide +kernel
theorem dX4_isControl_16 : decode cX4_isControl 16 = .ok (.iconst 0, 1) := by decide +kernel
theorem dX4_isControl_17 : decode cX4_isControl 17 = .ok (.ireturn, 1) := by decide +kernel
theorem dX4_isSign_0 : decode cX4_isSign 0 = .ok (.iload_n 1, 1) := by decide +kernel
theorem dX4_isSign_1 : decode cX4_isSign 1 = .ok (.ifCond .lt 15, 3) := by decide +kernel
theorem dX4_isSign_4 : decode cX4_isSign 4 = .ok (.iload_n 1, 1) := by decide +kernel
theorem dX4_isSign_5 : decode cX4_isSign 5 = .ok (.aload_n 0, 1) := by decide +kernel
theorem dX4_isSign_6 : decode cX4_isSign 6 = .ok (.getfield 15, 3) := by decide +kernel
theorem dX4_isSign_9 : decode cX4_isSign 9 = .ok (.if_icmp .ge 7, 3) := by decide +kernel
theorem dX4_isSign_12 : decode cX4_isSign 12 = .ok (.iconst 1, 1) := by decide +kernel
theorem dX4_isSign_13 : decode cX4_isSign 13 = .ok (.goto 4, 3) := by decide +kernel
theorem dX4_isSign_16 : decode cX4_isSign 16 = .ok (.iconst 0, 1) := by decide +kernel
theorem dX4_isSign_17 : decode cX4_isSign 17 = .ok (.ireturn, 1) := by decide +kernel
theorem dX4_add_0 : decode cX4_add 0 = .ok (.aload_n 0, 1) := by decide +kernel
theorem dX4_add_1 : decode cX4_add 1 = .ok (.getfield 24, 3) := by decide +kernel
theorem dX4_add_4 : decode cX4_add 4 = .ok (.aload_n 0, 1) := by decide +kernel
theorem dX4_add_5 : decode cX4_add 5 = .ok (.getfield 18, 3) := by decide +kernel
theorem dX4_add_8 : decode cX4_add 8 = .ok (.iload_n 1, 1) := by decide +kernel
theorem dX4_add_9 : decode cX4_add 9 = .ok (.iastore, 1) := by decide +kernel
theorem dX4_add_10 : decode cX4_add 10 = .ok (.aload_n 0, 1) := by decide +kernel
theorem dX4_add_11 : decode cX4_add 11 = .ok (.getfield 28, 3) := by decide +kernel
theorem dX4_add_14 : decode cX4_add 14 = .ok (.aload_n 0, 1) := by decide +kernel
theorem dX4_add_15 : decode cX4_add 15 = .ok (.getfield 18, 3) := by decide +kernel
theorem dX4_add_18 : decode cX4_add 18 = .ok (.iload_n 2, 1) := by decide +kernel
theorem dX4_add_19 : decode cX4_add 19 = .ok (.iastore, 1) := by decide +kernel
theorem dX4_add_20 : decode cX4_add 20 = .ok (.aload_n 0, 1) := by decide +kernel
theorem dX4_add_21 : decode cX4_add 21 = .ok (.getfield 31, 3) := by decide +kernel
theorem dX4_add_24 : decode cX4_add 24 = .ok (.aload_n 0, 1) := by decide +kernel
theorem dX4_add_25 : decode cX4_add 25 = .ok (.getfield 18, 3) := by decide +kernel
theorem dX4_add_28 : decode cX4_add 28 = .ok (.iload_n 3, 1) := by decide +kernel
theorem dX4_add_29 : decode cX4_add 29 = .ok (.iastore, 1) := by decide +kernel
theorem dX4_add_30 : decode cX4_add 30 = .ok (.aload_n 0, 1) := by decide +kernel
theorem dX4_add_31 : decode cX4_add 31 = .ok (.getfield 34, 3) := by decide +kernel
theorem dX4_add_34 : decode cX4_add 34 = .ok (.aload_n 0, 1) := by decide +kernel
theorem dX4_add_35 : decode cX4_add 35 = .ok (.getfield 18, 3) := by decide +kernel
theorem dX4_add_38 : decode cX4_add 38 = .ok (.iload 4, 2) := by decide +kernel
theorem dX4_add_40 : decode cX4_add 40 = .ok (.iastore, 1) := by decide +kernel
theorem dX4_add_41 : decode cX4_add 41 = .ok (.aload_n 0, 1) := by decide +kernel
theorem dX4_add_42 : decode cX4_add 42 = .ok (.dup, 1) := by decide +kernel
theorem dX4_add_43 : decode cX4_add 43 = .ok (.getfield 18, 3) := by decide +kernel
theorem dX4_add_46 : decode cX4_add 46 = .ok (.iconst 1, 1) := by decide +kernel
theorem dX4_add_47 : decode cX4_add 47 = .ok (.iadd, 1) := by decide +kernel
theorem dX4_add_48 : decode cX4_add 48 = .ok (.putfield 18, 3) := by decide +kernel
theorem dX4_add_51 : decode cX4_add 51 = .ok (.aload_n 0, 1) := by decide +kernel
theorem dX4_add_52 : decode cX4_add 52 = .ok (.dup, 1) := by decide +kernel
theorem dX4_add_53 : decode cX4_add 53 = .ok (.getfield 21, 3) := by decide +kernel
theorem dX4_add_56 : decode cX4_add 56 = .ok (.iconst 1, 1) := by decide +kernel
theorem dX4_add_57 : decode cX4_add 57 = .ok (.iadd, 1) := by decide +kernel
theorem dX4_add_58 : decode cX4_add 58 = .ok (.putfield 21, 3) := by decide +kernel
theorem dX4_add_61 : decode cX4_add 61 = .ok (.aload_n 0, 1) := by decide +kernel
theorem dX4_add_62 : decode cX4_add 62 = .ok (.getfield 18, 3) := by decide +kernel
theorem dX4_add_65 : decode cX4_add 65 = .ok (.iconst 1, 1) := by decide +kernel
theorem dX4_add_66 : decode cX4_add 66 = .ok (.isub, 1) := by decide +kernel
theorem dX4_add_67 : decode cX4_add 67 = .ok (.ireturn, 1) := by decide +kernel
theorem dX4_dropNewest_0 : decode cX4_dropNewest 0 = .ok (.aload_n 0, 1) := by decide +kernel
theorem dX4_dropNewest_1 : decode cX4_dropNewest 1 = .ok (.dup, 1) := by decide +kernel
theorem dX4_dropNewest_2 : decode cX4_dropNewest 2 = .ok (.getfield 18, 3) := by decide +kernel
theorem dX4_dropNewest_5 : decode cX4_dropNewest 5 = .ok (.iconst 1, 1) := by decide +kernel
theorem dX4_dropNewest_6 : decode cX4_dropNewest 6 = .ok (.isub, 1) := by decide +kernel
theorem dX4_dropNewest_7 : decode cX4_dropNewest 7 = .ok (.putfield 18, 3) := by decide +kernel
theorem dX4_dropNewest_10 : decode cX4_dropNewest 10 = .ok (.aload_n 0, 1) := by decide +kernel
theorem dX4_dropNewest_11 : decode cX4_dropNewest 11 = .ok (.dup, 1) := by decide +kernel
theorem dX4_dropNewest_12 : decode cX4_dropNewest 12 = .ok (.getfield 21, 3) := by decide +kernel
theorem dX4_dropNewest_15 : decode cX4_dropNewest 15 = .ok (.iconst 1, 1) := by decide +kernel
theorem dX4_dropNewest_16 : decode cX4_dropNewest 16 = .ok (.iadd, 1) := by decide +kernel
theorem dX4_dropNewest_17 : decode cX4_dropNewest 17 = .ok (.putfield 21, 3) := by decide +kernel
theorem dX4_dropNewest_20 : decode cX4_dropNewest 20 = .ok (.aload_n 0, 1) := by decide +kernel
theorem dX4_dropNewest_21 : decode cX4_dropNewest 21 = .ok (.getfield 18, 3) := by decide +kernel
theorem dX4_dropNewest_24 : decode cX4_dropNewest 24 = .ok (.ireturn, 1) := by decide +kernel
theorem dX4_matching_0 : decode cX4_matching 0 = .ok (.iconst 0, 1) := by decide +kernel
theorem dX4_matching_1 : decode cX4_matching 1 = .ok (.istore_n 2, 1) := by decide +kernel
theorem dX4_matching_2 : decode cX4_matching 2 = .ok (.iconst 0, 1) := by decide +kernel
theorem dX4_matching_3 : decode cX4_matching 3 = .ok (.istore_n 3, 1) := by decide +kernel
theorem dX4_matching_4 : decode cX4_matching 4 = .ok (.iload_n 3, 1) := by decide +kernel
theorem dX4_matching_5 : decode cX4_matching 5 = .ok (.aload_n 0, 1) := by decide +kernel
theorem dX4_matching_6 : decode cX4_matching 6 = .ok (.getfield 18, 3) := by decide +kernel
theorem dX4_matching_9 : decode cX4_matching 9 = .ok (.if_icmp .ge 22, 3) := by decide +kernel
theorem dX4_matching_12 : decode cX4_matching 12 = .ok (.aload_n 0, 1) := by decide +kernel
theorem dX4_matching_13 : decode cX4_matching 13 = .ok (.getfield 24, 3) := by decide +kernel
theorem dX4_matching_16 : decode cX4_matching 16 = .ok (.iload_n 3, 1) := by decide +kernel
theorem dX4_matching_17 : decode cX4_matching 17 = .ok (.iaload, 1) := by decide +kernel
theorem dX4_matching_18 : decode cX4_matching 18 = .ok (.iload_n 1, 1) := by decide +kernel
theorem dX4_matching_19 : decode cX4_matching 19 = .ok (.if_icmp .ne 6, 3) := by decide +kernel
theorem dX4_matching_22 : decode cX4_matching 22 = .ok (.iinc 2 1, 3) := by decide +kernel
theorem dX4_matching_25 : decode cX4_matching 25 = .ok (.iinc 3 1, 3) := by decide +kernel
theorem dX4_matching_28 : decode cX4_matching 28 = .ok (.goto (-24), 3) := by decide +kernel
theorem dX4_matching_31 : decode cX4_matching 31 = .ok (.iload_n 2, 1) := by decide +kernel
theorem dX4_matching_32 : decode cX4_matching 32 = .ok (.ireturn, 1) := by decide +kernel
end
section
theorem dX5_init_0 : decode cX5_init 0 = .ok (.aload_n 0, 1) := by decide +kernel
theorem dX5_init_1 : decode cX5_init 1 = .ok (.invokespecial 3, 3) := by decide +kernel
theorem dX5_init_4 : decode cX5_init 4 = .ok (.aload_n 0, 1) := by decide +kernel
theorem dX5_init_5 : decode cX5_init 5 = .ok (.iconst 0, 1) := by decide +kernel
theorem dX5_init_6 : decode cX5_init 6 = .ok (.putfield 9, 3) := by decide +kernel
theorem dX5_init_9 : decode cX5_init 9 = .ok (.aload_n 0, 1) := by decide +kernel
theorem dX5_init_10 : decode cX5_init 10 = .ok (.iconst 0, 1) := by decide +kernel
theorem dX5_init_11 : decode cX5_init 11 = .ok (.putfield 15, 3) := by decide +kernel
theorem dX5_init_14 : decode cX5_init 14 = .ok (.aload_n 0, 1) := by decide +kernel
theorem dX5_init_15 : decode cX5_init 15 = .ok (.bipush 60, 2) := by decide +kernel
theorem dX5_init_17 : decode cX5_init 17 = .ok (.newarray .int, 2) := by decide +kernel
theorem dX5_init_19 : decode cX5_init 19 = .ok (.putfield 18, 3) := by decide +kernel
theorem dX5_init_22 : decode cX5_init 22 = .ok (.return_, 1) := by decide +kernel
theorem dX5_restart_0 : decode cX5_restart 0 = .ok (.aload_n 0, 1) := by decide +kernel
theorem dX5_restart_1 : decode cX5_restart 1 = .ok (.iload_n 1, 1) := by decide +kernel
theorem dX5_restart_2 : decode cX5_restart 2 = .ok (.putfield 9, 3) := by decide +kernel
theorem dX5_restart_5 : decode cX5_restart 5 = .ok (.aload_n 0, 1) := by decide +kernel
theorem dX5_restart_6 : decode cX5_restart 6 = .ok (.iconst 0, 1) := by decide +kernel
theorem dX5_restart_7 : decode cX5_restart 7 = .ok (.putfield 15, 3) := by decide +kernel
theorem dX5_restart_10 : decode cX5_restart 10 = .ok (.return_, 1) := by decide +kernel
theorem dX5_cover_0 : decode cX5_cover 0 = .ok (.aload_n 0, 1) := by decide +kernel
theorem dX5_cover_1 : decode cX5_cover 1 = .ok (.getfield 18, 3) := by decide +kernel
theorem dX5_cover_4 : decode cX5_cover 4 = .ok (.aload_n 0, 1) := by decide +kernel
theorem dX5_cover_5 : decode cX5_cover 5 = .ok (.getfield 15, 3) := by decide +kernel
theorem dX5_cover_8 : decode cX5_cover 8 = .ok (.iload_n 1, 1) := by decide +kernel
theorem dX5_cover_9 : decode cX5_cover 9 = .ok (.iastore, 1) := by decide +kernel
theorem dX5_cover_10 : decode cX5_cover 10 = .ok (.aload_n 0, 1) := by decide +kernel
theorem dX5_cover_11 : decode cX5_cover 11 = .ok (.dup, 1) := by decide +kernel
theorem dX5_cover_12 : decode cX5_cover 12 = .ok (.getfield 15, 3) := by decide +kernel
theorem dX5_cover_15 : decode cX5_cover 15 = .ok (.iconst 1, 1) := by decide +kernel
theorem dX5_cover_16 : decode cX5_cover 16 = .ok (.iadd, 1) := by decide +kernel
theorem dX5_cover_17 : decode cX5_cover 17 = .ok (.putfield 15, 3) := by decide +kernel
theorem dX5_cover_20 : decode cX5_cover 20 = .ok (.return_, 1) := by decide +kernel
theorem dX5_head_0 : decode cX5_head 0 = .ok (.aload_n 0, 1) := by decide +kernel
theorem dX5_head_1 : decode cX5_head 1 = .ok (.getfield 15, 3) := by decide +kernel
theorem dX5_head_4 : decode cX5_head 4 = .ok (.ifCond .ne 7, 3) := by decide +kernel
theorem dX5_head_7 : decode cX5_head 7 = .ok (.iconst (-1), 1) := by decide +kernel
theorem dX5_head_8 : decode cX5_head 8 = .ok (.goto 21, 3) := by decide +kernel
theorem dX5_head_11 : decode cX5_head 11 = .ok (.aload_n 0, 1) := by decide +kernel
theorem dX5_head_12 : decode cX5_head 12 = .ok (.getfield 9, 3) := by decide +kernel
theorem dX5_head_15 : decode cX5_head 15 = .ok (.aload_n 0, 1) := by decide +kernel
theorem dX5_head_16 : decode cX5_head 16 = .ok (.getfield 18, 3) := by decide +kernel
theorem dX5_head_19 : decode cX5_head 19 = .ok (.aload_n 0, 1) := by decide +kernel
theorem dX5_head_20 : decode cX5_head 20 = .ok (.getfield 15, 3) := by decide +kernel
theorem dX5_head_23 : decode cX5_head 23 = .ok (.iconst 1, 1) := by decide +kernel
theorem dX5_head_24 : decode cX5_head 24 = .ok (.isub, 1) := by decide +kernel
theorem dX5_head_25 : decode cX5_head 25 = .ok (.iaload, 1) := by decide +kernel
theorem dX5_head_26 : decode cX5_head 26 = .ok (.invokestatic 22, 3) := by decide +kernel
theorem dX5_head_29 : decode cX5_head 29 = .ok (.ireturn, 1) := by decide +kernel
theorem dX5_hasRoom_0 : decode cX5_hasRoom 0 = .ok (.aload_n 1, 1) := by decide +kernel
theorem dX5_hasRoom_1 : decode cX5_hasRoom 1 = .ok (.getfield 26, 3) := by decide +kernel
theorem dX5_hasRoom_4 : decode cX5_hasRoom 4 = .ok (.iload_n 2, 1) := by decide +kernel
theorem dX5_hasRoom_5 : decode cX5_hasRoom 5 = .ok (.iaload, 1) := by decide +kernel
theorem dX5_hasRoom_6 : decode cX5_hasRoom 6 = .ok (.iconst (-1), 1) := by decide +kernel
theorem dX5_hasRoom_7 : decode cX5_hasRoom 7 = .ok (.if_icmp .eq 12, 3) := by decide +kernel
theorem dX5_hasRoom_10 : decode cX5_hasRoom 10 = .ok (.aload_n 0, 1) := by decide +kernel
theorem dX5_hasRoom_11 : decode cX5_hasRoom 11 = .ok (.getfield 15, 3) := by decide +kernel
theorem dX5_hasRoom_14 : decode cX5_hasRoom 14 = .ok (.bipush 60, 2) := by decide +kernel
theorem dX5_hasRoom_16 : decode cX5_hasRoom 16 = .ok (.if_icmp .ge 7, 3) := by decide +kernel
theorem dX5_hasRoom_19 : decode cX5_hasRoom 19 = .ok (.iconst 1, 1) := by decide +kernel
theorem dX5_hasRoom_20 : decode cX5_hasRoom 20 = .ok (.goto 4, 3) := by decide +kernel
theorem dX5_hasRoom_23 : decode cX5_hasRoom 23 = .ok (.iconst 0, 1) := by decide +kernel
theorem dX5_hasRoom_24 : decode cX5_hasRoom 24 = .ok (.ireturn, 1) := by decide +kernel
theorem dX5_change_0 : decode cX5_change 0 = .ok (.aload_n 0, 1) := by decide +kernel
theorem dX5_change_1 : decode cX5_change 1 = .ok (.dup, 1) := by decide +kernel
theorem dX5_change_2 : decode cX5_change 2 = .ok (.getfield 15, 3) := by decide +kernel
theorem dX5_change_5 : decode cX5_change 5 = .ok (.iconst 1, 1) := by decide +kernel
theorem dX5_change_6 : decode cX5_change 6 = .ok (.isub, 1) := by decide +kernel
theorem dX5_change_7 : decode cX5_change 7 = .ok (.putfield 15, 3) := by decide +kernel
theorem dX5_change_10 : decode cX5_change 10 = .ok (.aload_n 1, 1) := by decide +kernel
theorem dX5_change_11 : decode cX5_change 11 = .ok (.getfield 26, 3) := by decide +kernel
theorem dX5_change_14 : decode cX5_change 14 = .ok (.iload_n 2, 1) := by decide +kernel
theorem dX5_change_15 : decode cX5_change 15 = .ok (.iaload, 1) := by decide +kernel
theorem dX5_change_16 : decode cX5_change 16 = .ok (.iconst (-1), 1) := by decide +kernel
theorem dX5_change_17 : decode cX5_change 17 = .ok (.if_icmp .eq 13, 3) := by decide +kernel
theorem dX5_change_20 : decode cX5_change 20 = .ok (.aload_n 0, 1) := by decide +kernel
theorem dX5_change_21 : decode cX5_change 21 = .ok (.aload_n 1, 1) := by decide +kernel
theorem dX5_change_22 : decode cX5_change 22 = .ok (.getfield 26, 3) := by decide +kernel
theorem dX5_change_25 : decode cX5_change 25 = .ok (.iload_n 2, 1) := by decide +kernel
theorem dX5_change_26 : decode cX5_change 26 = .ok (.iaload, 1) := by decide +kernel
theorem dX5_change_27 : decode cX5_change 27 = .ok (.invokevirtual 31, 3) := by decide +kernel
theorem dX5_change_30 : decode cX5_change 30 = .ok (.aload_n 1, 1) := by decide +kernel
theorem dX5_change_31 : decode cX5_change 31 = .ok (.getfield 35, 3) := by decide +kernel
theorem dX5_change_34 : decode cX5_change 34 = .ok (.iload_n 2, 1) := by decide +kernel
theorem dX5_change_35 : decode cX5_change 35 = .ok (.iaload, 1) := by decide +kernel
theorem dX5_change_36 : decode cX5_change 36 = .ok (.iconst (-1), 1) := by decide +kernel
theorem dX5_change_37 : decode cX5_change 37 = .ok (.if_icmp .eq 13, 3) := by decide +kernel
theorem dX5_change_40 : decode cX5_change 40 = .ok (.aload_n 0, 1) := by decide +kernel
theorem dX5_change_41 : decode cX5_change 41 = .ok (.aload_n 1, 1) := by decide +kernel
theorem dX5_change_42 : decode cX5_change 42 = .ok (.getfield 35, 3) := by decide +kernel
theorem dX5_change_45 : decode cX5_change 45 = .ok (.iload_n 2, 1) := by decide +kernel
theorem dX5_change_46 : decode cX5_change 46 = .ok (.iaload, 1) := by decide +kernel
theorem dX5_change_47 : decode cX5_change 47 = .ok (.invokevirtual 31, 3) := by decide +kernel
theorem dX5_change_50 : decode cX5_change 50 = .ok (.aload_n 0, 1) := by decide +kernel
theorem dX5_change_51 : decode cX5_change 51 = .ok (.aload_n 1, 1) := by decide +kernel
theorem dX5_change_52 : decode cX5_change 52 = .ok (.getfield 38, 3) := by decide +kernel
theorem dX5_change_55 : decode cX5_change 55 = .ok (.iload_n 2, 1) := by decide +kernel
theorem dX5_change_56 : decode cX5_change 56 = .ok (.iaload, 1) := by decide +kernel
theorem dX5_change_57 : decode cX5_change 57 = .ok (.putfield 9, 3) := by decide +kernel
theorem dX5_change_60 : decode cX5_change 60 = .ok (.return_, 1) := by decide +kernel
end
section
theorem dX6_init_0 : decode cX6_init 0 = .ok (.aload_n 0, 1) := by decide +kernel
theorem dX6_init_1 : decode cX6_init 1 = .ok (.invokespecial 3, 3) := by decide +kernel
theorem dX6_init_4 : decode cX6_init 4 = .ok (.aload_n 0, 1) := by decide +kernel
theorem dX6_init_5 : decode cX6_init 5 = .ok (.new 9, 3) := by decide +kernel
theorem dX6_init_8 : decode cX6_init 8 = .ok (.dup, 1) := by decide +kernel
theorem dX6_init_9 : decode cX6_init 9 = .ok (.invokespecial 11, 3) := by decide +kernel
theorem dX6_init_12 : decode cX6_init 12 = .ok (.putfield 12, 3) := by decide +kernel
theorem dX6_init_15 : decode cX6_init 15 = .ok (.aload_n 0, 1) := by decide +kernel
theorem dX6_init_16 : decode cX6_init 16 = .ok (.new 16, 3) := by decide +kernel
theorem dX6_init_19 : decode cX6_init 19 = .ok (.dup, 1) := by decide +kernel
theorem dX6_init_20 : decode cX6_init 20 = .ok (.invokespecial 18, 3) := by decide +kernel
theorem dX6_init_23 : decode cX6_init 23 = .ok (.putfield 19, 3) := by decide +kernel
theorem dX6_init_26 : decode cX6_init 26 = .ok (.aload_n 0, 1) := by decide +kernel
theorem dX6_init_27 : decode cX6_init 27 = .ok (.bipush 6, 2) := by decide +kernel
theorem dX6_init_29 : decode cX6_init 29 = .ok (.anewarray 23, 3) := by decide +kernel
theorem dX6_init_32 : decode cX6_init 32 = .ok (.putfield 25, 3) := by decide +kernel
theorem dX6_init_35 : decode cX6_init 35 = .ok (.aload_n 0, 1) := by decide +kernel
theorem dX6_init_36 : decode cX6_init 36 = .ok (.new 29, 3) := by decide +kernel
theorem dX6_init_39 : decode cX6_init 39 = .ok (.dup, 1) := by decide +kernel
theorem dX6_init_40 : decode cX6_init 40 = .ok (.invokespecial 31, 3) := by decide +kernel
theorem dX6_init_43 : decode cX6_init 43 = .ok (.putfield 32, 3) := by decide +kernel
theorem dX6_init_46 : decode cX6_init 46 = .ok (.aload_n 0, 1) := by decide +kernel
theorem dX6_init_47 : decode cX6_init 47 = .ok (.new 36, 3) := by decide +kernel
theorem dX6_init_50 : decode cX6_init 50 = .ok (.dup, 1) := by decide +kernel
theorem dX6_init_51 : decode cX6_init 51 = .ok (.invokespecial 38, 3) := by decide +kernel
theorem dX6_init_54 : decode cX6_init 54 = .ok (.putfield 39, 3) := by decide +kernel
theorem dX6_init_57 : decode cX6_init 57 = .ok (.aload_n 0, 1) := by decide +kernel
theorem dX6_init_58 : decode cX6_init 58 = .ok (.new 43, 3) := by decide +kernel
theorem dX6_init_61 : decode cX6_init 61 = .ok (.dup, 1) := by decide +kernel
theorem dX6_init_62 : decode cX6_init 62 = .ok (.invokespecial 45, 3) := by decide +kernel
theorem dX6_init_65 : decode cX6_init 65 = .ok (.putfield 46, 3) := by decide +kernel
theorem dX6_init_68 : decode cX6_init 68 = .ok (.aload_n 0, 1) := by decide +kernel
theorem dX6_init_69 : decode cX6_init 69 = .ok (.iconst 0, 1) := by decide +kernel
theorem dX6_init_70 : decode cX6_init 70 = .ok (.putfield 50, 3) := by decide +kernel
theorem dX6_init_73 : decode cX6_init 73 = .ok (.iconst 0, 1) := by decide +kernel
theorem dX6_init_74 : decode cX6_init 74 = .ok (.istore_n 1, 1) := by decide +kernel
theorem dX6_init_75 : decode cX6_init 75 = .ok (.iload_n 1, 1) := by decide +kernel
theorem dX6_init_76 : decode cX6_init 76 = .ok (.bipush 6, 2) := by decide +kernel
theorem dX6_init_78 : decode cX6_init 78 = .ok (.if_icmp .ge 22, 3) := by decide +kernel
theorem dX6_init_81 : decode cX6_init 81 = .ok (.aload_n 0, 1) := by decide +kernel
theorem dX6_init_82 : decode cX6_init 82 = .ok (.getfield 25, 3) := by decide +kernel
theorem dX6_init_85 : decode cX6_init 85 = .ok (.iload_n 1, 1) := by decide +kernel
theorem dX6_init_86 : decode cX6_init 86 = .ok (.new 23, 3) := by decide +kernel
theorem dX6_init_89 : decode cX6_init 89 = .ok (.dup, 1) := by decide +kernel
theorem dX6_init_90 : decode cX6_init 90 = .ok (.invokespecial 54, 3) := by decide +kernel
theorem dX6_init_93 : decode cX6_init 93 = .ok (.aastore, 1) := by decide +kernel
theorem dX6_init_94 : decode cX6_init 94 = .ok (.iinc 1 1, 3) := by decide +kernel
theorem dX6_init_97 : decode cX6_init 97 = .ok (.goto (-22), 3) := by decide +kernel
theorem dX6_init_100 : decode cX6_init 100 = .ok (.return_, 1) := by decide +kernel
theorem dX6_machine_0 : decode cX6_machine 0 = .ok (.iload_n 1, 1) := by decide +kernel
theorem dX6_machine_1 : decode cX6_machine 1 = .ok (.iconst 1, 1) := by decide +kernel
theorem dX6_machine_2 : decode cX6_machine 2 = .ok (.if_icmp .lt 18, 3) := by decide +kernel
theorem dX6_machine_5 : decode cX6_machine 5 = .ok (.iload_n 1, 1) := by decide +kernel
theorem dX6_machine_6 : decode cX6_machine 6 = .ok (.iconst 5, 1) := by decide +kernel
theorem dX6_machine_7 : decode cX6_machine 7 = .ok (.if_icmp .gt 13, 3) := by decide +kernel
theorem dX6_machine_10 : decode cX6_machine 10 = .ok (.iload_n 2, 1) := by decide +kernel
theorem dX6_machine_11 : decode cX6_machine 11 = .ok (.iconst 1, 1) := by decide +kernel
theorem dX6_machine_12 : decode cX6_machine 12 = .ok (.if_icmp .lt 8, 3) := by decide +kernel
theorem dX6_machine_15 : decode cX6_machine 15 = .ok (.iload_n 2, 1) := by decide +kernel
theorem dX6_machine_16 : decode cX6_machine 16 = .ok (.iconst 5, 1) := by decide +kernel
theorem dX6_machine_17 : decode cX6_machine 17 = .ok (.if_icmp .le 6, 3) := by decide +kernel
theorem dX6_machine_20 : decode cX6_machine 20 = .ok (.bipush (-2), 2) := by decide +kernel
theorem dX6_machine_22 : decode cX6_machine 22 = .ok (.ireturn, 1) := by decide +kernel
theorem dX6_machine_23 : decode cX6_machine 23 = .ok (.aload_n 0, 1) := by decide +kernel
theorem dX6_machine_24 : decode cX6_machine 24 = .ok (.getfield 12, 3) := by decide +kernel
theorem dX6_machine_27 : decode cX6_machine 27 = .ok (.getfield 55, 3) := by decide +kernel
theorem dX6_machine_30 : decode cX6_machine 30 = .ok (.istore_n 3, 1) := by decide +kernel
theorem dX6_machine_31 : decode cX6_machine 31 = .ok (.aload_n 0, 1) := by decide +kernel
theorem dX6_machine_32 : decode cX6_machine 32 = .ok (.getfield 12, 3) := by decide +kernel
theorem dX6_machine_35 : decode cX6_machine 35 = .ok (.iload_n 1, 1) := by decide +kernel
theorem dX6_machine_36 : decode cX6_machine 36 = .ok (.iload_n 2, 1) := by decide +kernel
theorem dX6_machine_37 : decode cX6_machine 37 = .ok (.invokevirtual 58, 3) := by decide +kernel
theorem dX6_machine_40 : decode cX6_machine 40 = .ok (.aload_n 0, 1) := by decide +kernel
theorem dX6_machine_41 : decode cX6_machine 41 = .ok (.getfield 19, 3) := by decide +kernel
theorem dX6_machine_44 : decode cX6_machine 44 = .ok (.iconst 0, 1) := by decide +kernel
theorem dX6_machine_45 : decode cX6_machine 45 = .ok (.invokevirtual 62, 3) := by decide +kernel
theorem dX6_machine_48 : decode cX6_machine 48 = .ok (.aload_n 0, 1) := by decide +kernel
theorem dX6_machine_49 : decode cX6_machine 49 = .ok (.iconst 0, 1) := by decide +kernel
theorem dX6_machine_50 : decode cX6_machine 50 = .ok (.putfield 50, 3) := by decide +kernel
theorem dX6_machine_53 : decode cX6_machine 53 = .ok (.iload_n 3, 1) := by decide +kernel
theorem dX6_machine_54 : decode cX6_machine 54 = .ok (.ireturn, 1) := by decide +kernel
theorem dX6_rule_0 : decode cX6_rule 0 = .ok (.aload_n 0, 1) := by decide +kernel
theorem dX6_rule_1 : decode cX6_rule 1 = .ok (.getfield 12, 3) := by decide +kernel
theorem dX6_rule_4 : decode cX6_rule 4 = .ok (.iload_n 1, 1) := by decide +kernel
theorem dX6_rule_5 : decode cX6_rule 5 = .ok (.invokevirtual 65, 3) := by decide +kernel
theorem dX6_rule_8 : decode cX6_rule 8 = .ok (.ifCond .eq 25, 3) := by decide +kernel
theorem dX6_rule_11 : decode cX6_rule 11 = .ok (.aload_n 0, 1) := by decide +kernel
theorem dX6_rule_12 : decode cX6_rule 12 = .ok (.getfield 12, 3) := by decide +kernel
theorem dX6_rule_15 : decode cX6_rule 15 = .ok (.iload_n 2, 1) := by decide +kernel
theorem dX6_rule_16 : decode cX6_rule 16 = .ok (.invokevirtual 69, 3) := by decide +kernel
theorem dX6_rule_19 : decode cX6_rule 19 = .ok (.ifCond .eq 14, 3) := by decide +kernel
theorem dX6_rule_22 : decode cX6_rule 22 = .ok (.aload_n 0, 1) := by decide +kernel
theorem dX6_rule_23 : decode cX6_rule 23 = .ok (.getfield 12, 3) := by decide +kernel
theorem dX6_rule_26 : decode cX6_rule 26 = .ok (.iload_n 3, 1) := by decide +kernel
theorem dX6_rule_27 : decode cX6_rule 27 = .ok (.invokevirtual 65, 3) := by decide +kernel
theorem dX6_rule_30 : decode cX6_rule 30 = .ok (.ifCond .ne 6, 3) := by decide +kernel
theorem dX6_rule_33 : decode cX6_rule 33 = .ok (.bipush (-2), 2) := by decide +kernel
theorem dX6_rule_35 : decode cX6_rule 35 = .ok (.ireturn, 1) := by decide +kernel
theorem dX6_rule_36 : decode cX6_rule 36 = .ok (.iload 4, 2) := by decide +kernel
theorem dX6_rule_38 : decode cX6_rule 38 = .ok (.iconst (-1), 1) := by decide +kernel
theorem dX6_rule_39 : decode cX6_rule 39 = .ok (.if_icmp .ne 17, 3) := by decide +kernel
theorem dX6_rule_42 : decode cX6_rule 42 = .ok (.iload 5, 2) := by decide +kernel
theorem dX6_rule_44 : decode cX6_rule 44 = .ok (.iconst (-1), 1) := by decide +kernel
theorem dX6_rule_45 : decode cX6_rule 45 = .ok (.if_icmp .ne 7, 3) := by decide +kernel
theorem dX6_rule_48 : decode cX6_rule 48 = .ok (.iconst 1, 1) := by decide +kernel
theorem dX6_rule_49 : decode cX6_rule 49 = .ok (.goto 42, 3) := by decide +kernel
theorem dX6_rule_52 : decode cX6_rule 52 = .ok (.iconst 0, 1) := by decide +kernel
theorem dX6_rule_53 : decode cX6_rule 53 = .ok (.goto 38, 3) := by decide +kernel
theorem dX6_rule_56 : decode cX6_rule 56 = .ok (.aload_n 0, 1) := by decide +kernel
theorem dX6_rule_57 : decode cX6_rule 57 = .ok (.getfield 12, 3) := by decide +kernel
theorem dX6_rule_60 : decode cX6_rule 60 = .ok (.iload 4, 2) := by decide +kernel
theorem dX6_rule_62 : decode cX6_rule 62 = .ok (.invokevirtual 69, 3) := by decide +kernel
theorem dX6_rule_65 : decode cX6_rule 65 = .ok (.ifCond .eq 25, 3) := by decide +kernel
theorem dX6_rule_68 : decode cX6_rule 68 = .ok (.iload 5, 2) := by decide +kernel
theorem dX6_rule_70 : decode cX6_rule 70 = .ok (.iconst (-1), 1) := by decide +kernel
theorem dX6_rule_71 : decode cX6_rule 71 = .ok (.if_icmp .eq 15, 3) := by decide +kernel
theorem dX6_rule_74 : decode cX6_rule 74 = .ok (.aload_n 0, 1) := by decide +kernel
theorem dX6_rule_75 : decode cX6_rule 75 = .ok (.getfield 12, 3) := by decide +kernel
theorem dX6_rule_78 : decode cX6_rule 78 = .ok (.iload 5, 2) := by decide +kernel
theorem dX6_rule_80 : decode cX6_rule 80 = .ok (.invokevirtual 69, 3) := by decide +kernel
theorem dX6_rule_83 : decode cX6_rule 83 = .ok (.ifCond .eq 7, 3) := by decide +kernel
theorem dX6_rule_86 : decode cX6_rule 86 = .ok (.iconst 1, 1) := by decide +kernel
theorem dX6_rule_87 : decode cX6_rule 87 = .ok (.goto 4, 3) := by decide +kernel
theorem dX6_rule_90 : decode cX6_rule 90 = .ok (.iconst 0, 1) := by decide +kernel
theorem dX6_rule_91 : decode cX6_rule 91 = .ok (.istore 6, 2) := by decide +kernel
theorem dX6_rule_93 : decode cX6_rule 93 = .ok (.iload 6, 2) := by decide +kernel
theorem dX6_rule_95 : decode cX6_rule 95 = .ok (.ifCond .ne 6, 3) := by decide +kernel
theorem dX6_rule_98 : decode cX6_rule 98 = .ok (.bipush (-2), 2) := by decide +kernel
theorem dX6_rule_100 : decode cX6_rule 100 = .ok (.ireturn, 1) := by decide +kernel
theorem dX6_rule_101 : decode cX6_rule 101 = .ok (.aload_n 0, 1) := by decide +kernel
theorem dX6_rule_102 : decode cX6_rule 102 = .ok (.getfield 12, 3) := by decide +kernel
theorem dX6_rule_105 : decode cX6_rule 105 = .ok (.getfield 55, 3) := by decide +kernel
theorem dX6_rule_108 : decode cX6_rule 108 = .ok (.bipush 30, 2) := by decide +kernel
theorem dX6_rule_110 : decode cX6_rule 110 = .ok (.if_icmp .ne 6, 3) := by decide +kernel
theorem dX6_rule_113 : decode cX6_rule 113 = .ok (.bipush (-4), 2) := by decide +kernel
theorem dX6_rule_115 : decode cX6_rule 115 = .ok (.ireturn, 1) := by decide +kernel
theorem dX6_rule_116 : decode cX6_rule 116 = .ok (.aload_n 0, 1) := by decide +kernel
theorem dX6_rule_117 : decode cX6_rule 117 = .ok (.getfield 12, 3) := by decide +kernel
theorem dX6_rule_120 : decode cX6_rule 120 = .ok (.iload_n 1, 1) := by decide +kernel
theorem dX6_rule_121 : decode cX6_rule 121 = .ok (.iload_n 2, 1) := by decide +kernel
theorem dX6_rule_122 : decode cX6_rule 122 = .ok (.invokestatic 72, 3) := by decide +kernel
theorem dX6_rule_125 : decode cX6_rule 125 = .ok (.iload_n 3, 1) := by decide +kernel
theorem dX6_rule_126 : decode cX6_rule 126 = .ok (.iload 4, 2) := by decide +kernel
theorem dX6_rule_128 : decode cX6_rule 128 = .ok (.iload 5, 2) := by decide +kernel
theorem dX6_rule_130 : decode cX6_rule 130 = .ok (.invokevirtual 76, 3) := by decide +kernel
theorem dX6_rule_133 : decode cX6_rule 133 = .ok (.ireturn, 1) := by decide +kernel
theorem dX6_unrule_0 : decode cX6_unrule 0 = .ok (.aload_n 0, 1) := by decide +kernel
theorem dX6_unrule_1 : decode cX6_unrule 1 = .ok (.getfield 12, 3) := by decide +kernel
theorem dX6_unrule_4 : decode cX6_unrule 4 = .ok (.getfield 55, 3) := by decide +kernel
theorem dX6_unrule_7 : decode cX6_unrule 7 = .ok (.ifCond .ne 6, 3) := by decide +kernel
theorem dX6_unrule_10 : decode cX6_unrule 10 = .ok (.bipush (-3), 2) := by decide +kernel
theorem dX6_unrule_12 : decode cX6_unrule 12 = .ok (.ireturn, 1) := by decide +kernel
theorem dX6_unrule_13 : decode cX6_unrule 13 = .ok (.aload_n 0, 1) := by decide +kernel
theorem dX6_unrule_14 : decode cX6_unrule 14 = .ok (.getfield 12, 3) := by decide +kernel
theorem dX6_unrule_17 : decode cX6_unrule 17 = .ok (.invokevirtual 80, 3) := by decide +kernel
theorem dX6_unrule_20 : decode cX6_unrule 20 = .ok (.ireturn, 1) := by decide +kernel
theorem dX6_stand_0 : decode cX6_stand 0 = .ok (.aload_n 0, 1) := by decide +kernel
theorem dX6_stand_1 : decode cX6_stand 1 = .ok (.getfield 12, 3) := by decide +kernel
theorem dX6_stand_4 : decode cX6_stand 4 = .ok (.iload_n 1, 1) := by decide +kernel
theorem dX6_stand_5 : decode cX6_stand 5 = .ok (.invokevirtual 65, 3) := by decide +kernel
theorem dX6_stand_8 : decode cX6_stand 8 = .ok (.ifCond .ne 6, 3) := by decide +kernel
theorem dX6_stand_11 : decode cX6_stand 11 = .ok (.bipush (-2), 2) := by decide +kernel
theorem dX6_stand_13 : decode cX6_stand 13 = .ok (.ireturn, 1) := by decide +kernel
theorem dX6_stand_14 : decode cX6_stand 14 = .ok (.aload_n 0, 1) := by decide +kernel
theorem dX6_stand_15 : decode cX6_stand 15 = .ok (.getfield 19, 3) := by decide +kernel
theorem dX6_stand_18 : decode cX6_stand 18 = .ok (.getfield 84, 3) := by decide +kernel
theorem dX6_stand_21 : decode cX6_stand 21 = .ok (.istore_n 2, 1) := by decide +kernel
theorem dX6_stand_22 : decode cX6_stand 22 = .ok (.aload_n 0, 1) := by decide +kernel
theorem dX6_stand_23 : decode cX6_stand 23 = .ok (.getfield 19, 3) := by decide +kernel
theorem dX6_stand_26 : decode cX6_stand 26 = .ok (.iload_n 1, 1) := by decide +kernel
theorem dX6_stand_27 : decode cX6_stand 27 = .ok (.invokevirtual 62, 3) := by decide +kernel
theorem dX6_stand_30 : decode cX6_stand 30 = .ok (.iload_n 2, 1) := by decide +kernel
theorem dX6_stand_31 : decode cX6_stand 31 = .ok (.ireturn, 1) := by decide +kernel
theorem dX6_push_0 : decode cX6_push 0 = .ok (.aload_n 0, 1) := by decide +kernel
theorem dX6_push_1 : decode cX6_push 1 = .ok (.getfield 12, 3) := by decide +kernel
theorem dX6_push_4 : decode cX6_push 4 = .ok (.iload_n 1, 1) := by decide +kernel
theorem dX6_push_5 : decode cX6_push 5 = .ok (.invokevirtual 69, 3) := by decide +kernel
theorem dX6_push_8 : decode cX6_push 8 = .ok (.ifCond .ne 6, 3) := by decide +kernel
theorem dX6_push_11 : decode cX6_push 11 = .ok (.bipush (-2), 2) := by decide +kernel
theorem dX6_push_13 : decode cX6_push 13 = .ok (.ireturn, 1) := by decide +kernel
theorem dX6_push_14 : decode cX6_push 14 = .ok (.aload_n 0, 1) := by decide +kernel
theorem dX6_push_15 : decode cX6_push 15 = .ok (.getfield 19, 3) := by decide +kernel
theorem dX6_push_18 : decode cX6_push 18 = .ok (.getfield 84, 3) := by decide +kernel
theorem dX6_push_21 : decode cX6_push 21 = .ok (.bipush 60, 2) := by decide +kernel
theorem dX6_push_23 : decode cX6_push 23 = .ok (.if_icmp .ne 6, 3) := by decide +kernel
theorem dX6_push_26 : decode cX6_push 26 = .ok (.bipush (-4), 2) := by decide +kernel
theorem dX6_push_28 : decode cX6_push 28 = .ok (.ireturn, 1) := by decide +kernel
theorem dX6_push_29 : decode cX6_push 29 = .ok (.aload_n 0, 1) := by decide +kernel
theorem dX6_push_30 : decode cX6_push 30 = .ok (.getfield 19, 3) := by decide +kernel
theorem dX6_push_33 : decode cX6_push 33 = .ok (.iload_n 1, 1) := by decide +kernel
theorem dX6_push_34 : decode cX6_push 34 = .ok (.invokevirtual 87, 3) := by decide +kernel
theorem dX6_push_37 : decode cX6_push 37 = .ok (.aload_n 0, 1) := by decide +kernel
theorem dX6_push_38 : decode cX6_push 38 = .ok (.getfield 19, 3) := by decide +kernel
theorem dX6_push_41 : decode cX6_push 41 = .ok (.getfield 84, 3) := by decide +kernel
theorem dX6_push_44 : decode cX6_push 44 = .ok (.ireturn, 1) := by decide +kernel
theorem dX6_at_0 : decode cX6_at 0 = .ok (.iload_n 1, 1) := by decide +kernel
theorem dX6_at_1 : decode cX6_at 1 = .ok (.iconst (-1), 1) := by decide +kernel
theorem dX6_at_2 : decode cX6_at 2 = .ok (.if_icmp .lt 14, 3) := by decide +kernel
theorem dX6_at_5 : decode cX6_at 5 = .ok (.iload_n 1, 1) := by decide +kernel
theorem dX6_at_6 : decode cX6_at 6 = .ok (.aload_n 0, 1) := by decide +kernel
theorem dX6_at_7 : decode cX6_at 7 = .ok (.getfield 19, 3) := by decide +kernel
theorem dX6_at_10 : decode cX6_at 10 = .ok (.getfield 84, 3) := by decide +kernel
theorem dX6_at_13 : decode cX6_at 13 = .ok (.if_icmp .lt 6, 3) := by decide +kernel
theorem dX6_at_16 : decode cX6_at 16 = .ok (.bipush (-2), 2) := by decide +kernel
theorem dX6_at_18 : decode cX6_at 18 = .ok (.ireturn, 1) := by decide +kernel
theorem dX6_at_19 : decode cX6_at 19 = .ok (.iload_n 1, 1) := by decide +kernel
theorem dX6_at_20 : decode cX6_at 20 = .ok (.iconst (-1), 1) := by decide +kernel
theorem dX6_at_21 : decode cX6_at 21 = .ok (.if_icmp .ne 13, 3) := by decide +kernel
theorem dX6_at_24 : decode cX6_at 24 = .ok (.aload_n 0, 1) := by decide +kernel
theorem dX6_at_25 : decode cX6_at 25 = .ok (.getfield 19, 3) := by decide +kernel
theorem dX6_at_28 : decode cX6_at 28 = .ok (.getfield 90, 3) := by decide +kernel
theorem dX6_at_31 : decode cX6_at 31 = .ok (.goto 22, 3) := by decide +kernel
theorem dX6_at_34 : decode cX6_at 34 = .ok (.aload_n 0, 1) := by decide +kernel
theorem dX6_at_35 : decode cX6_at 35 = .ok (.getfield 19, 3) := by decide +kernel
theorem dX6_at_38 : decode cX6_at 38 = .ok (.getfield 93, 3) := by decide +kernel
theorem dX6_at_41 : decode cX6_at 41 = .ok (.aload_n 0, 1) := by decide +kernel
theorem dX6_at_42 : decode cX6_at 42 = .ok (.getfield 19, 3) := by decide +kernel
theorem dX6_at_45 : decode cX6_at 45 = .ok (.getfield 84, 3) := by decide +kernel
theorem dX6_at_48 : decode cX6_at 48 = .ok (.iconst 1, 1) := by decide +kernel
theorem dX6_at_49 : decode cX6_at 49 = .ok (.isub, 1) := by decide +kernel
theorem dX6_at_50 : decode cX6_at 50 = .ok (.iload_n 1, 1) := by decide +kernel
theorem dX6_at_51 : decode cX6_at 51 = .ok (.isub, 1) := by decide +kernel
theorem dX6_at_52 : decode cX6_at 52 = .ok (.iaload, 1) := by decide +kernel
theorem dX6_at_53 : decode cX6_at 53 = .ok (.ireturn, 1) := by decide +kernel
theorem dX6_go_0 : decode cX6_go 0 = .ok (.iload_n 1, 1) := by decide +kernel
theorem dX6_go_1 : decode cX6_go 1 = .ok (.ifCond .lt 14, 3) := by decide +kernel
theorem dX6_go_4 : decode cX6_go 4 = .ok (.iload_n 1, 1) := by decide +kernel
theorem dX6_go_5 : decode cX6_go 5 = .ok (.aload_n 0, 1) := by decide +kernel
theorem dX6_go_6 : decode cX6_go 6 = .ok (.getfield 12, 3) := by decide +kernel
theorem dX6_go_9 : decode cX6_go 9 = .ok (.getfield 55, 3) := by decide +kernel
theorem dX6_go_12 : decode cX6_go 12 = .ok (.if_icmp .lt 6, 3) := by decide +kernel
theorem dX6_go_15 : decode cX6_go 15 = .ok (.bipush (-2), 2) := by decide +kernel
theorem dX6_go_17 : decode cX6_go 17 = .ok (.ireturn, 1) := by decide +kernel
theorem dX6_go_18 : decode cX6_go 18 = .ok (.aload_n 0, 1) := by decide +kernel
theorem dX6_go_19 : decode cX6_go 19 = .ok (.getfield 12, 3) := by decide +kernel
theorem dX6_go_22 : decode cX6_go 22 = .ok (.getfield 97, 3) := by decide +kernel
theorem dX6_go_25 : decode cX6_go 25 = .ok (.iload_n 1, 1) := by decide +kernel
theorem dX6_go_26 : decode cX6_go 26 = .ok (.iaload, 1) := by decide +kernel
theorem dX6_go_27 : decode cX6_go 27 = .ok (.aload_n 0, 1) := by decide +kernel
theorem dX6_go_28 : decode cX6_go 28 = .ok (.getfield 19, 3) := by decide +kernel
theorem dX6_go_31 : decode cX6_go 31 = .ok (.invokevirtual 100, 3) := by decide +kernel
theorem dX6_go_34 : decode cX6_go 34 = .ok (.if_icmp .eq 6, 3) := by decide +kernel
theorem dX6_go_37 : decode cX6_go 37 = .ok (.bipush (-3), 2) := by decide +kernel
theorem dX6_go_39 : decode cX6_go 39 = .ok (.ireturn, 1) := by decide +kernel
theorem dX6_go_40 : decode cX6_go 40 = .ok (.aload_n 0, 1) := by decide +kernel
theorem dX6_go_41 : decode cX6_go 41 = .ok (.getfield 19, 3) := by decide +kernel
theorem dX6_go_44 : decode cX6_go 44 = .ok (.aload_n 0, 1) := by decide +kernel
theorem dX6_go_45 : decode cX6_go 45 = .ok (.getfield 12, 3) := by decide +kernel
theorem dX6_go_48 : decode cX6_go 48 = .ok (.iload_n 1, 1) := by decide +kernel
theorem dX6_go_49 : decode cX6_go 49 = .ok (.invokevirtual 102, 3) := by decide +kernel
theorem dX6_go_52 : decode cX6_go 52 = .ok (.ifCond .ne 6, 3) := by decide +kernel
theorem dX6_go_55 : decode cX6_go 55 = .ok (.bipush (-4), 2) := by decide +kernel
theorem dX6_go_57 : decode cX6_go 57 = .ok (.ireturn, 1) := by decide +kernel
theorem dX6_go_58 : decode cX6_go 58 = .ok (.aload_n 0, 1) := by decide +kernel
theorem dX6_go_59 : decode cX6_go 59 = .ok (.getfield 19, 3) := by decide +kernel
theorem dX6_go_62 : decode cX6_go 62 = .ok (.aload_n 0, 1) := by decide +kernel
theorem dX6_go_63 : decode cX6_go 63 = .ok (.getfield 12, 3) := by decide +kernel
theorem dX6_go_66 : decode cX6_go 66 = .ok (.iload_n 1, 1) := by decide +kernel
theorem dX6_go_67 : decode cX6_go 67 = .ok (.invokevirtual 106, 3) := by decide +kernel
theorem dX6_go_70 : decode cX6_go 70 = .ok (.aload_n 0, 1) := by decide +kernel
theorem dX6_go_71 : decode cX6_go 71 = .ok (.getfield 19, 3) := by decide +kernel
theorem dX6_go_74 : decode cX6_go 74 = .ok (.getfield 84, 3) := by decide +kernel
theorem dX6_go_77 : decode cX6_go 77 = .ok (.ireturn, 1) := by decide +kernel
theorem dX6_set_0 : decode cX6_set 0 = .ok (.aload_n 0, 1) := by decide +kernel
theorem dX6_set_1 : decode cX6_set 1 = .ok (.getfield 50, 3) := by decide +kernel
theorem dX6_set_4 : decode cX6_set 4 = .ok (.bipush 6, 2) := by decide +kernel
theorem dX6_set_6 : decode cX6_set 6 = .ok (.if_icmp .ne 6, 3) := by decide +kernel
theorem dX6_set_9 : decode cX6_set 9 = .ok (.bipush (-4), 2) := by decide +kernel
theorem dX6_set_11 : decode cX6_set 11 = .ok (.ireturn, 1) := by decide +kernel
theorem dX6_set_12 : decode cX6_set 12 = .ok (.aload_n 0, 1) := by decide +kernel
theorem dX6_set_13 : decode cX6_set 13 = .ok (.getfield 25, 3) := by decide +kernel
theorem dX6_set_16 : decode cX6_set 16 = .ok (.aload_n 0, 1) := by decide +kernel
theorem dX6_set_17 : decode cX6_set 17 = .ok (.getfield 50, 3) := by decide +kernel
theorem dX6_set_20 : decode cX6_set 20 = .ok (.aaload, 1) := by decide +kernel
theorem dX6_set_21 : decode cX6_set 21 = .ok (.invokevirtual 110, 3) := by decide +kernel
theorem dX6_set_24 : decode cX6_set 24 = .ok (.aload_n 0, 1) := by decide +kernel
theorem dX6_set_25 : decode cX6_set 25 = .ok (.dup, 1) := by decide +kernel
theorem dX6_set_26 : decode cX6_set 26 = .ok (.getfield 50, 3) := by decide +kernel
theorem dX6_set_29 : decode cX6_set 29 = .ok (.iconst 1, 1) := by decide +kernel
theorem dX6_set_30 : decode cX6_set 30 = .ok (.iadd, 1) := by decide +kernel
theorem dX6_set_31 : decode cX6_set 31 = .ok (.putfield 50, 3) := by decide +kernel
theorem dX6_set_34 : decode cX6_set 34 = .ok (.aload_n 0, 1) := by decide +kernel
theorem dX6_set_35 : decode cX6_set 35 = .ok (.getfield 50, 3) := by decide +kernel
theorem dX6_set_38 : decode cX6_set 38 = .ok (.iconst 1, 1) := by decide +kernel
theorem dX6_set_39 : decode cX6_set 39 = .ok (.isub, 1) := by decide +kernel
theorem dX6_set_40 : decode cX6_set 40 = .ok (.ireturn, 1) := by decide +kernel
theorem dX6_link_0 : decode cX6_link 0 = .ok (.aload_n 0, 1) := by decide +kernel
theorem dX6_link_1 : decode cX6_link 1 = .ok (.iload_n 1, 1) := by decide +kernel
theorem dX6_link_2 : decode cX6_link 2 = .ok (.invokevirtual 112, 3) := by decide +kernel
theorem dX6_link_5 : decode cX6_link 5 = .ok (.ifCond .eq 36, 3) := by decide +kernel
theorem dX6_link_8 : decode cX6_link 8 = .ok (.aload_n 0, 1) := by decide +kernel
theorem dX6_link_9 : decode cX6_link 9 = .ok (.iload_n 2, 1) := by decide +kernel
theorem dX6_link_10 : decode cX6_link 10 = .ok (.iload_n 3, 1) := by decide +kernel
theorem dX6_link_11 : decode cX6_link 11 = .ok (.invokevirtual 115, 3) := by decide +kernel
theorem dX6_link_14 : decode cX6_link 14 = .ok (.ifCond .eq 27, 3) := by decide +kernel
theorem dX6_link_17 : decode cX6_link 17 = .ok (.aload_n 0, 1) := by decide +kernel
theorem dX6_link_18 : decode cX6_link 18 = .ok (.getfield 12, 3) := by decide +kernel
theorem dX6_link_21 : decode cX6_link 21 = .ok (.iload 4, 2) := by decide +kernel
theorem dX6_link_23 : decode cX6_link 23 = .ok (.invokevirtual 69, 3) := by decide +kernel
theorem dX6_link_26 : decode cX6_link 26 = .ok (.ifCond .eq 15, 3) := by decide +kernel
theorem dX6_link_29 : decode cX6_link 29 = .ok (.iload 5, 2) := by decide +kernel
theorem dX6_link_31 : decode cX6_link 31 = .ok (.ifCond .lt 10, 3) := by decide +kernel
theorem dX6_link_34 : decode cX6_link 34 = .ok (.iload 5, 2) := by decide +kernel
theorem dX6_link_36 : decode cX6_link 36 = .ok (.bipush 6, 2) := by decide +kernel
theorem dX6_link_38 : decode cX6_link 38 = .ok (.if_icmp .lt 6, 3) := by decide +kernel
theorem dX6_link_41 : decode cX6_link 41 = .ok (.bipush (-2), 2) := by decide +kernel
theorem dX6_link_43 : decode cX6_link 43 = .ok (.ireturn, 1) := by decide +kernel
theorem dX6_link_44 : decode cX6_link 44 = .ok (.aload_n 0, 1) := by decide +kernel
theorem dX6_link_45 : decode cX6_link 45 = .ok (.getfield 25, 3) := by decide +kernel
theorem dX6_link_48 : decode cX6_link 48 = .ok (.iload_n 1, 1) := by decide +kernel
theorem dX6_link_49 : decode cX6_link 49 = .ok (.aaload, 1) := by decide +kernel
theorem dX6_link_50 : decode cX6_link 50 = .ok (.getfield 119, 3) := by decide +kernel
theorem dX6_link_53 : decode cX6_link 53 = .ok (.bipush 24, 2) := by decide +kernel
theorem dX6_link_55 : decode cX6_link 55 = .ok (.if_icmp .ne 6, 3) := by decide +kernel
theorem dX6_link_58 : decode cX6_link 58 = .ok (.bipush (-4), 2) := by decide +kernel
theorem dX6_link_60 : decode cX6_link 60 = .ok (.ireturn, 1) := by decide +kernel
theorem dX6_link_61 : decode cX6_link 61 = .ok (.aload_n 0, 1) := by decide +kernel
theorem dX6_link_62 : decode cX6_link 62 = .ok (.getfield 25, 3) := by decide +kernel
theorem dX6_link_65 : decode cX6_link 65 = .ok (.iload_n 1, 1) := by decide +kernel
theorem dX6_link_66 : decode cX6_link 66 = .ok (.aaload, 1) := by decide +kernel
theorem dX6_link_67 : decode cX6_link 67 = .ok (.iload_n 2, 1) := by decide +kernel
theorem dX6_link_68 : decode cX6_link 68 = .ok (.iload_n 3, 1) := by decide +kernel
theorem dX6_link_69 : decode cX6_link 69 = .ok (.invokestatic 122, 3) := by decide +kernel
theorem dX6_link_72 : decode cX6_link 72 = .ok (.iload 4, 2) := by decide +kernel
theorem dX6_link_74 : decode cX6_link 74 = .ok (.iload 5, 2) := by decide +kernel
theorem dX6_link_76 : decode cX6_link 76 = .ok (.invokevirtual 125, 3) := by decide +kernel
theorem dX6_link_79 : decode cX6_link 79 = .ok (.ireturn, 1) := by decide +kernel
theorem dX6_last_0 : decode cX6_last 0 = .ok (.aload_n 0, 1) := by decide +kernel
theorem dX6_last_1 : decode cX6_last 1 = .ok (.iload_n 1, 1) := by decide +kernel
theorem dX6_last_2 : decode cX6_last 2 = .ok (.invokevirtual 112, 3) := by decide +kernel
theorem dX6_last_5 : decode cX6_last 5 = .ok (.ifCond .eq 12, 3) := by decide +kernel
theorem dX6_last_8 : decode cX6_last 8 = .ok (.aload_n 0, 1) := by decide +kernel
theorem dX6_last_9 : decode cX6_last 9 = .ok (.iload_n 2, 1) := by decide +kernel
theorem dX6_last_10 : decode cX6_last 10 = .ok (.iload_n 3, 1) := by decide +kernel
theorem dX6_last_11 : decode cX6_last 11 = .ok (.invokevirtual 115, 3) := by decide +kernel
theorem dX6_last_14 : decode cX6_last 14 = .ok (.ifCond .ne 6, 3) := by decide +kernel
theorem dX6_last_17 : decode cX6_last 17 = .ok (.bipush (-2), 2) := by decide +kernel
theorem dX6_last_19 : decode cX6_last 19 = .ok (.ireturn, 1) := by decide +kernel
theorem dX6_last_20 : decode cX6_last 20 = .ok (.aload_n 0, 1) := by decide +kernel
theorem dX6_last_21 : decode cX6_last 21 = .ok (.getfield 25, 3) := by decide +kernel
theorem dX6_last_24 : decode cX6_last 24 = .ok (.iload_n 1, 1) := by decide +kernel
theorem dX6_last_25 : decode cX6_last 25 = .ok (.aaload, 1) := by decide +kernel
theorem dX6_last_26 : decode cX6_last 26 = .ok (.iload_n 2, 1) := by decide +kernel
theorem dX6_last_27 : decode cX6_last 27 = .ok (.iload_n 3, 1) := by decide +kernel
theorem dX6_last_28 : decode cX6_last 28 = .ok (.invokestatic 122, 3) := by decide +kernel
theorem dX6_last_31 : decode cX6_last 31 = .ok (.iload 4, 2) := by decide +kernel
theorem dX6_last_33 : decode cX6_last 33 = .ok (.invokevirtual 129, 3) := by decide +kernel
theorem dX6_last_36 : decode cX6_last 36 = .ok (.ifCond .eq 7, 3) := by decide +kernel
theorem dX6_last_39 : decode cX6_last 39 = .ok (.iconst 1, 1) := by decide +kernel
theorem dX6_last_40 : decode cX6_last 40 = .ok (.goto 4, 3) := by decide +kernel
theorem dX6_last_43 : decode cX6_last 43 = .ok (.iconst 0, 1) := by decide +kernel
theorem dX6_last_44 : decode cX6_last 44 = .ok (.ireturn, 1) := by decide +kernel
theorem dX6_unset_0 : decode cX6_unset 0 = .ok (.aload_n 0, 1) := by decide +kernel
theorem dX6_unset_1 : decode cX6_unset 1 = .ok (.getfield 50, 3) := by decide +kernel
theorem dX6_unset_4 : decode cX6_unset 4 = .ok (.ifCond .ne 6, 3) := by decide +kernel
theorem dX6_unset_7 : decode cX6_unset 7 = .ok (.bipush (-3), 2) := by decide +kernel
theorem dX6_unset_9 : decode cX6_unset 9 = .ok (.ireturn, 1) := by decide +kernel
theorem dX6_unset_10 : decode cX6_unset 10 = .ok (.aload_n 0, 1) := by decide +kernel
theorem dX6_unset_11 : decode cX6_unset 11 = .ok (.dup, 1) := by decide +kernel
theorem dX6_unset_12 : decode cX6_unset 12 = .ok (.getfield 50, 3) := by decide +kernel
theorem dX6_unset_15 : decode cX6_unset 15 = .ok (.iconst 1, 1) := by decide +kernel
theorem dX6_unset_16 : decode cX6_unset 16 = .ok (.isub, 1) := by decide +kernel
theorem dX6_unset_17 : decode cX6_unset 17 = .ok (.putfield 50, 3) := by decide +kernel
theorem dX6_unset_20 : decode cX6_unset 20 = .ok (.aload_n 0, 1) := by decide +kernel
theorem dX6_unset_21 : decode cX6_unset 21 = .ok (.getfield 50, 3) := by decide +kernel
theorem dX6_unset_24 : decode cX6_unset 24 = .ok (.ireturn, 1) := by decide +kernel
theorem dX6_in_0 : decode cX6_in 0 = .ok (.aload_n 0, 1) := by decide +kernel
theorem dX6_in_1 : decode cX6_in 1 = .ok (.iload_n 1, 1) := by decide +kernel
theorem dX6_in_2 : decode cX6_in 2 = .ok (.invokevirtual 112, 3) := by decide +kernel
theorem dX6_in_5 : decode cX6_in 5 = .ok (.ifCond .ne 6, 3) := by decide +kernel
theorem dX6_in_8 : decode cX6_in 8 = .ok (.bipush (-2), 2) := by decide +kernel
theorem dX6_in_10 : decode cX6_in 10 = .ok (.ireturn, 1) := by decide +kernel
theorem dX6_in_11 : decode cX6_in 11 = .ok (.aload_n 0, 1) := by decide +kernel
theorem dX6_in_12 : decode cX6_in 12 = .ok (.getfield 25, 3) := by decide +kernel
theorem dX6_in_15 : decode cX6_in 15 = .ok (.iload_n 1, 1) := by decide +kernel
theorem dX6_in_16 : decode cX6_in 16 = .ok (.aaload, 1) := by decide +kernel
theorem dX6_in_17 : decode cX6_in 17 = .ok (.aload_n 0, 1) := by decide +kernel
theorem dX6_in_18 : decode cX6_in 18 = .ok (.getfield 19, 3) := by decide +kernel
theorem dX6_in_21 : decode cX6_in 21 = .ok (.invokevirtual 133, 3) := by decide +kernel
theorem dX6_in_24 : decode cX6_in 24 = .ok (.ifCond .eq 7, 3) := by decide +kernel
theorem dX6_in_27 : decode cX6_in 27 = .ok (.iconst 1, 1) := by decide +kernel
theorem dX6_in_28 : decode cX6_in 28 = .ok (.goto 4, 3) := by decide +kernel
theorem dX6_in_31 : decode cX6_in 31 = .ok (.iconst 0, 1) := by decide +kernel
theorem dX6_in_32 : decode cX6_in 32 = .ok (.ireturn, 1) := by decide +kernel
theorem dX6_far_0 : decode cX6_far 0 = .ok (.aload_n 0, 1) := by decide +kernel
theorem dX6_far_1 : decode cX6_far 1 = .ok (.iload_n 1, 1) := by decide +kernel
theorem dX6_far_2 : decode cX6_far 2 = .ok (.invokevirtual 112, 3) := by decide +kernel
theorem dX6_far_5 : decode cX6_far 5 = .ok (.ifCond .ne 7, 3) := by decide +kernel
theorem dX6_far_8 : decode cX6_far 8 = .ok (.ldc2_w 137, 3) := by decide +kernel
theorem dX6_far_11 : decode cX6_far 11 = .ok (.lreturn, 1) := by decide +kernel
theorem dX6_far_12 : decode cX6_far 12 = .ok (.aload_n 0, 1) := by decide +kernel
theorem dX6_far_13 : decode cX6_far 13 = .ok (.iload_n 1, 1) := by decide +kernel
theorem dX6_far_14 : decode cX6_far 14 = .ok (.invokevirtual 139, 3) := by decide +kernel
theorem dX6_far_17 : decode cX6_far 17 = .ok (.invokestatic 143, 3) := by decide +kernel
theorem dX6_far_20 : decode cX6_far 20 = .ok (.lreturn, 1) := by decide +kernel
theorem dX6_step_0 : decode cX6_step 0 = .ok (.aload_n 0, 1) := by decide +kernel
theorem dX6_step_1 : decode cX6_step 1 = .ok (.iload_n 1, 1) := by decide +kernel
theorem dX6_step_2 : decode cX6_step 2 = .ok (.invokevirtual 112, 3) := by decide +kernel
theorem dX6_step_5 : decode cX6_step 5 = .ok (.ifCond .ne 6, 3) := by decide +kernel
theorem dX6_step_8 : decode cX6_step 8 = .ok (.bipush (-2), 2) := by decide +kernel
theorem dX6_step_10 : decode cX6_step 10 = .ok (.ireturn, 1) := by decide +kernel
theorem dX6_step_11 : decode cX6_step 11 = .ok (.aload_n 0, 1) := by decide +kernel
theorem dX6_step_12 : decode cX6_step 12 = .ok (.iload_n 1, 1) := by decide +kernel
theorem dX6_step_13 : decode cX6_step 13 = .ok (.invokevirtual 139, 3) := by decide +kernel
theorem dX6_step_16 : decode cX6_step 16 = .ok (.lstore_n 2, 1) := by decide +kernel
theorem dX6_step_17 : decode cX6_step 17 = .ok (.lload_n 2, 1) := by decide +kernel
theorem dX6_step_18 : decode cX6_step 18 = .ok (.lconst 0, 1) := by decide +kernel
theorem dX6_step_19 : decode cX6_step 19 = .ok (.lcmp, 1) := by decide +kernel
theorem dX6_step_20 : decode cX6_step 20 = .ok (.ifCond .eq 11, 3) := by decide +kernel
theorem dX6_step_23 : decode cX6_step 23 = .ok (.lload_n 2, 1) := by decide +kernel
theorem dX6_step_24 : decode cX6_step 24 = .ok (.ldc2_w 147, 3) := by decide +kernel
theorem dX6_step_27 : decode cX6_step 27 = .ok (.lcmp, 1) := by decide +kernel
theorem dX6_step_28 : decode cX6_step 28 = .ok (.ifCond .lt 6, 3) := by decide +kernel
theorem dX6_step_31 : decode cX6_step 31 = .ok (.bipush (-3), 2) := by decide +kernel
theorem dX6_step_33 : decode cX6_step 33 = .ok (.ireturn, 1) := by decide +kernel
theorem dX6_step_34 : decode cX6_step 34 = .ok (.aload_n 0, 1) := by decide +kernel
theorem dX6_step_35 : decode cX6_step 35 = .ok (.iload_n 1, 1) := by decide +kernel
theorem dX6_step_36 : decode cX6_step 36 = .ok (.lload_n 2, 1) := by decide +kernel
theorem dX6_step_37 : decode cX6_step 37 = .ok (.invokevirtual 149, 3) := by decide +kernel
theorem dX6_step_40 : decode cX6_step 40 = .ok (.istore 4, 2) := by decide +kernel
theorem dX6_step_42 : decode cX6_step 42 = .ok (.iload 4, 2) := by decide +kernel
theorem dX6_step_44 : decode cX6_step 44 = .ok (.ifCond .ge 6, 3) := by decide +kernel
theorem dX6_step_47 : decode cX6_step 47 = .ok (.bipush (-3), 2) := by decide +kernel
theorem dX6_step_49 : decode cX6_step 49 = .ok (.ireturn, 1) := by decide +kernel
theorem dX6_step_50 : decode cX6_step 50 = .ok (.aload_n 0, 1) := by decide +kernel
theorem dX6_step_51 : decode cX6_step 51 = .ok (.getfield 19, 3) := by decide +kernel
theorem dX6_step_54 : decode cX6_step 54 = .ok (.aload_n 0, 1) := by decide +kernel
theorem dX6_step_55 : decode cX6_step 55 = .ok (.getfield 12, 3) := by decide +kernel
theorem dX6_step_58 : decode cX6_step 58 = .ok (.iload 4, 2) := by decide +kernel
theorem dX6_step_60 : decode cX6_step 60 = .ok (.invokevirtual 102, 3) := by decide +kernel
theorem dX6_step_63 : decode cX6_step 63 = .ok (.ifCond .ne 6, 3) := by decide +kernel
theorem dX6_step_66 : decode cX6_step 66 = .ok (.bipush (-4), 2) := by decide +kernel
theorem dX6_step_68 : decode cX6_step 68 = .ok (.ireturn, 1) := by decide +kernel
theorem dX6_step_69 : decode cX6_step 69 = .ok (.aload_n 0, 1) := by decide +kernel
theorem dX6_step_70 : decode cX6_step 70 = .ok (.getfield 19, 3) := by decide +kernel
theorem dX6_step_73 : decode cX6_step 73 = .ok (.aload_n 0, 1) := by decide +kernel
theorem dX6_step_74 : decode cX6_step 74 = .ok (.getfield 12, 3) := by decide +kernel
theorem dX6_step_77 : decode cX6_step 77 = .ok (.iload 4, 2) := by decide +kernel
theorem dX6_step_79 : decode cX6_step 79 = .ok (.invokevirtual 106, 3) := by decide +kernel
theorem dX6_step_82 : decode cX6_step 82 = .ok (.iload 4, 2) := by decide +kernel
theorem dX6_step_84 : decode cX6_step 84 = .ok (.ireturn, 1) := by decide +kernel
theorem dX6_run_0 : decode cX6_run 0 = .ok (.aload_n 0, 1) := by decide +kernel
theorem dX6_run_1 : decode cX6_run 1 = .ok (.iload_n 1, 1) := by decide +kernel
theorem dX6_run_2 : decode cX6_run 2 = .ok (.invokevirtual 112, 3) := by decide +kernel
theorem dX6_run_5 : decode cX6_run 5 = .ok (.ifCond .eq 14, 3) := by decide +kernel
theorem dX6_run_8 : decode cX6_run 8 = .ok (.iload_n 2, 1) := by decide +kernel
theorem dX6_run_9 : decode cX6_run 9 = .ok (.ifCond .lt 10, 3) := by decide +kernel
theorem dX6_run_12 : decode cX6_run 12 = .ok (.iload_n 2, 1) := by decide +kernel
theorem dX6_run_13 : decode cX6_run 13 = .ok (.sipush 2000, 3) := by decide +kernel
theorem dX6_run_16 : decode cX6_run 16 = .ok (.if_icmp .le 6, 3) := by decide +kernel
theorem dX6_run_19 : decode cX6_run 19 = .ok (.bipush (-2), 2) := by decide +kernel
theorem dX6_run_21 : decode cX6_run 21 = .ok (.ireturn, 1) := by decide +kernel
theorem dX6_run_22 : decode cX6_run 22 = .ok (.aload_n 0, 1) := by decide +kernel
theorem dX6_run_23 : decode cX6_run 23 = .ok (.iload_n 1, 1) := by decide +kernel
theorem dX6_run_24 : decode cX6_run 24 = .ok (.invokevirtual 139, 3) := by decide +kernel
theorem dX6_run_27 : decode cX6_run 27 = .ok (.lstore_n 3, 1) := by decide +kernel
theorem dX6_run_28 : decode cX6_run 28 = .ok (.lload_n 3, 1) := by decide +kernel
theorem dX6_run_29 : decode cX6_run 29 = .ok (.ldc2_w 147, 3) := by decide +kernel
theorem dX6_run_32 : decode cX6_run 32 = .ok (.lcmp, 1) := by decide +kernel
theorem dX6_run_33 : decode cX6_run 33 = .ok (.ifCond .lt 6, 3) := by decide +kernel
theorem dX6_run_36 : decode cX6_run 36 = .ok (.bipush (-3), 2) := by decide +kernel
theorem dX6_run_38 : decode cX6_run 38 = .ok (.ireturn, 1) := by decide +kernel
theorem dX6_run_39 : decode cX6_run 39 = .ok (.iconst 0, 1) := by decide +kernel
theorem dX6_run_40 : decode cX6_run 40 = .ok (.istore 5, 2) := by decide +kernel
theorem dX6_run_42 : decode cX6_run 42 = .ok (.iload 5, 2) := by decide +kernel
theorem dX6_run_44 : decode cX6_run 44 = .ok (.iload_n 2, 1) := by decide +kernel
theorem dX6_run_45 : decode cX6_run 45 = .ok (.if_icmp .ge 101, 3) := by decide +kernel
theorem dX6_run_48 : decode cX6_run 48 = .ok (.lload_n 3, 1) := by decide +kernel
theorem dX6_run_49 : decode cX6_run 49 = .ok (.iload 5, 2) := by decide +kernel
theorem dX6_run_51 : decode cX6_run 51 = .ok (.i2l, 1) := by decide +kernel
theorem dX6_run_52 : decode cX6_run 52 = .ok (.lcmp, 1) := by decide +kernel
theorem dX6_run_53 : decode cX6_run 53 = .ok (.ifCond .le 16, 3) := by decide +kernel
theorem dX6_run_56 : decode cX6_run 56 = .ok (.aload_n 0, 1) := by decide +kernel
theorem dX6_run_57 : decode cX6_run 57 = .ok (.iload_n 1, 1) := by decide +kernel
theorem dX6_run_58 : decode cX6_run 58 = .ok (.lload_n 3, 1) := by decide +kernel
theorem dX6_run_59 : decode cX6_run 59 = .ok (.iload 5, 2) := by decide +kernel
theorem dX6_run_61 : decode cX6_run 61 = .ok (.i2l, 1) := by decide +kernel
theorem dX6_run_62 : decode cX6_run 62 = .ok (.lsub, 1) := by decide +kernel
theorem dX6_run_63 : decode cX6_run 63 = .ok (.invokevirtual 149, 3) := by decide +kernel
theorem dX6_run_66 : decode cX6_run 66 = .ok (.goto 5, 3) := by decide +kernel
theorem dX6_run_69 : decode cX6_run 69 = .ok (.bipush (-3), 2) := by decide +kernel
theorem dX6_run_71 : decode cX6_run 71 = .ok (.istore 6, 2) := by decide +kernel
theorem dX6_run_73 : decode cX6_run 73 = .ok (.iload 6, 2) := by decide +kernel
theorem dX6_run_75 : decode cX6_run 75 = .ok (.ifCond .lt 19, 3) := by decide +kernel
theorem dX6_run_78 : decode cX6_run 78 = .ok (.aload_n 0, 1) := by decide +kernel
theorem dX6_run_79 : decode cX6_run 79 = .ok (.getfield 19, 3) := by decide +kernel
theorem dX6_run_82 : decode cX6_run 82 = .ok (.aload_n 0, 1) := by decide +kernel
theorem dX6_run_83 : decode cX6_run 83 = .ok (.getfield 12, 3) := by decide +kernel
theorem dX6_run_86 : decode cX6_run 86 = .ok (.iload 6, 2) := by decide +kernel
theorem dX6_run_88 : decode cX6_run 88 = .ok (.invokevirtual 102, 3) := by decide +kernel
theorem dX6_run_91 : decode cX6_run 91 = .ok (.ifCond .ne 6, 3) := by decide +kernel
theorem dX6_run_94 : decode cX6_run 94 = .ok (.iload 5, 2) := by decide +kernel
theorem dX6_run_96 : decode cX6_run 96 = .ok (.ireturn, 1) := by decide +kernel
theorem dX6_run_97 : decode cX6_run 97 = .ok (.aload_n 0, 1) := by decide +kernel
theorem dX6_run_98 : decode cX6_run 98 = .ok (.getfield 19, 3) := by decide +kernel
theorem dX6_run_101 : decode cX6_run 101 = .ok (.getfield 84, 3) := by decide +kernel
theorem dX6_run_104 : decode cX6_run 104 = .ok (.iconst 1, 1) := by decide +kernel
theorem dX6_run_105 : decode cX6_run 105 = .ok (.isub, 1) := by decide +kernel
theorem dX6_run_106 : decode cX6_run 106 = .ok (.istore 7, 2) := by decide +kernel
theorem dX6_run_108 : decode cX6_run 108 = .ok (.aload_n 0, 1) := by decide +kernel
theorem dX6_run_109 : decode cX6_run 109 = .ok (.getfield 19, 3) := by decide +kernel
theorem dX6_run_112 : decode cX6_run 112 = .ok (.aload_n 0, 1) := by decide +kernel
theorem dX6_run_113 : decode cX6_run 113 = .ok (.getfield 12, 3) := by decide +kernel
theorem dX6_run_116 : decode cX6_run 116 = .ok (.iload 6, 2) := by decide +kernel
theorem dX6_run_118 : decode cX6_run 118 = .ok (.invokevirtual 106, 3) := by decide +kernel
theorem dX6_run_121 : decode cX6_run 121 = .ok (.aload_n 0, 1) := by decide +kernel
theorem dX6_run_122 : decode cX6_run 122 = .ok (.getfield 46, 3) := by decide +kernel
theorem dX6_run_125 : decode cX6_run 125 = .ok (.aload_n 0, 1) := by decide +kernel
theorem dX6_run_126 : decode cX6_run 126 = .ok (.getfield 25, 3) := by decide +kernel
theorem dX6_run_129 : decode cX6_run 129 = .ok (.iload_n 1, 1) := by decide +kernel
theorem dX6_run_130 : decode cX6_run 130 = .ok (.aaload, 1) := by decide +kernel
theorem dX6_run_131 : decode cX6_run 131 = .ok (.aload_n 0, 1) := by decide +kernel
theorem dX6_run_132 : decode cX6_run 132 = .ok (.getfield 19, 3) := by decide +kernel
theorem dX6_run_135 : decode cX6_run 135 = .ok (.iload 7, 2) := by decide +kernel
theorem dX6_run_137 : decode cX6_run 137 = .ok (.invokevirtual 153, 3) := by decide +kernel
theorem dX6_run_140 : decode cX6_run 140 = .ok (.iinc 5 1, 3) := by decide +kernel
theorem dX6_run_143 : decode cX6_run 143 = .ok (.goto (-101), 3) := by decide +kernel
theorem dX6_run_146 : decode cX6_run 146 = .ok (.iload_n 2, 1) := by decide +kernel
theorem dX6_run_147 : decode cX6_run 147 = .ok (.ireturn, 1) := by decide +kernel
theorem dX6_pop_0 : decode cX6_pop 0 = .ok (.aload_n 0, 1) := by decide +kernel
theorem dX6_pop_1 : decode cX6_pop 1 = .ok (.getfield 12, 3) := by decide +kernel
theorem dX6_pop_4 : decode cX6_pop 4 = .ok (.iload_n 1, 1) := by decide +kernel
theorem dX6_pop_5 : decode cX6_pop 5 = .ok (.invokevirtual 65, 3) := by decide +kernel
theorem dX6_pop_8 : decode cX6_pop 8 = .ok (.ifCond .eq 25, 3) := by decide +kernel
theorem dX6_pop_11 : decode cX6_pop 11 = .ok (.aload_n 0, 1) := by decide +kernel
theorem dX6_pop_12 : decode cX6_pop 12 = .ok (.getfield 12, 3) := by decide +kernel
theorem dX6_pop_15 : decode cX6_pop 15 = .ok (.iload_n 2, 1) := by decide +kernel
theorem dX6_pop_16 : decode cX6_pop 16 = .ok (.invokevirtual 69, 3) := by decide +kernel
theorem dX6_pop_19 : decode cX6_pop 19 = .ok (.ifCond .eq 14, 3) := by decide +kernel
theorem dX6_pop_22 : decode cX6_pop 22 = .ok (.aload_n 0, 1) := by decide +kernel
theorem dX6_pop_23 : decode cX6_pop 23 = .ok (.getfield 12, 3) := by decide +kernel
theorem dX6_pop_26 : decode cX6_pop 26 = .ok (.iload_n 3, 1) := by decide +kernel
theorem dX6_pop_27 : decode cX6_pop 27 = .ok (.invokevirtual 65, 3) := by decide +kernel
theorem dX6_pop_30 : decode cX6_pop 30 = .ok (.ifCond .ne 7, 3) := by decide +kernel
theorem dX6_pop_33 : decode cX6_pop 33 = .ok (.ldc2_w 137, 3) := by decide +kernel
theorem dX6_pop_36 : decode cX6_pop 36 = .ok (.lreturn, 1) := by decide +kernel
theorem dX6_pop_37 : decode cX6_pop 37 = .ok (.aload_n 0, 1) := by decide +kernel
theorem dX6_pop_38 : decode cX6_pop 38 = .ok (.getfield 32, 3) := by decide +kernel
theorem dX6_pop_41 : decode cX6_pop 41 = .ok (.aload_n 0, 1) := by decide +kernel
theorem dX6_pop_42 : decode cX6_pop 42 = .ok (.getfield 12, 3) := by decide +kernel
theorem dX6_pop_45 : decode cX6_pop 45 = .ok (.invokevirtual 157, 3) := by decide +kernel
theorem dX6_pop_48 : decode cX6_pop 48 = .ok (.aload_n 0, 1) := by decide +kernel
theorem dX6_pop_49 : decode cX6_pop 49 = .ok (.getfield 32, 3) := by decide +kernel
theorem dX6_pop_52 : decode cX6_pop 52 = .ok (.getfield 161, 3) := by decide +kernel
theorem dX6_pop_55 : decode cX6_pop 55 = .ok (.iload_n 1, 1) := by decide +kernel
theorem dX6_pop_56 : decode cX6_pop 56 = .ok (.iload_n 2, 1) := by decide +kernel
theorem dX6_pop_57 : decode cX6_pop 57 = .ok (.invokestatic 72, 3) := by decide +kernel
theorem dX6_pop_60 : decode cX6_pop 60 = .ok (.iconst 5, 1) := by decide +kernel
theorem dX6_pop_61 : decode cX6_pop 61 = .ok (.imul, 1) := by decide +kernel
theorem dX6_pop_62 : decode cX6_pop 62 = .ok (.iload_n 3, 1) := by decide +kernel
theorem dX6_pop_63 : decode cX6_pop 63 = .ok (.iadd, 1) := by decide +kernel
theorem dX6_pop_64 : decode cX6_pop 64 = .ok (.laload, 1) := by decide +kernel
theorem dX6_pop_65 : decode cX6_pop 65 = .ok (.invokestatic 143, 3) := by decide +kernel
theorem dX6_pop_68 : decode cX6_pop 68 = .ok (.lreturn, 1) := by decide +kernel
theorem dX6_endless_0 : decode cX6_endless 0 = .ok (.aload_n 0, 1) := by decide +kernel
theorem dX6_endless_1 : decode cX6_endless 1 = .ok (.getfield 32, 3) := by decide +kernel
theorem dX6_endless_4 : decode cX6_endless 4 = .ok (.aload_n 0, 1) := by decide +kernel
theorem dX6_endless_5 : decode cX6_endless 5 = .ok (.getfield 12, 3) := by decide +kernel
theorem dX6_endless_8 : decode cX6_endless 8 = .ok (.invokevirtual 157, 3) := by decide +kernel
theorem dX6_endless_11 : decode cX6_endless 11 = .ok (.aload_n 0, 1) := by decide +kernel
theorem dX6_endless_12 : decode cX6_endless 12 = .ok (.getfield 39, 3) := by decide +kernel
theorem dX6_endless_15 : decode cX6_endless 15 = .ok (.aload_n 0, 1) := by decide +kernel
theorem dX6_endless_16 : decode cX6_endless 16 = .ok (.getfield 12, 3) := by decide +kernel
theorem dX6_endless_19 : decode cX6_endless 19 = .ok (.aload_n 0, 1) := by decide +kernel
theorem dX6_endless_20 : decode cX6_endless 20 = .ok (.getfield 32, 3) := by decide +kernel
theorem dX6_endless_23 : decode cX6_endless 23 = .ok (.invokevirtual 165, 3) := by decide +kernel
theorem dX6_endless_26 : decode cX6_endless 26 = .ok (.aload_n 0, 1) := by decide +kernel
theorem dX6_endless_27 : decode cX6_endless 27 = .ok (.getfield 39, 3) := by decide +kernel
theorem dX6_endless_30 : decode cX6_endless 30 = .ok (.aload_n 0, 1) := by decide +kernel
theorem dX6_endless_31 : decode cX6_endless 31 = .ok (.getfield 19, 3) := by decide +kernel
theorem dX6_endless_34 : decode cX6_endless 34 = .ok (.invokevirtual 168, 3) := by decide +kernel
theorem dX6_endless_37 : decode cX6_endless 37 = .ok (.ifCond .eq 7, 3) := by decide +kernel
theorem dX6_endless_40 : decode cX6_endless 40 = .ok (.iconst 1, 1) := by decide +kernel
theorem dX6_endless_41 : decode cX6_endless 41 = .ok (.goto 4, 3) := by decide +kernel
theorem dX6_endless_44 : decode cX6_endless 44 = .ok (.iconst 0, 1) := by decide +kernel
theorem dX6_endless_45 : decode cX6_endless 45 = .ok (.ireturn, 1) := by decide +kernel
theorem dX6_high_0 : decode cX6_high 0 = .ok (.aload_n 0, 1) := by decide +kernel
theorem dX6_high_1 : decode cX6_high 1 = .ok (.getfield 32, 3) := by decide +kernel
theorem dX6_high_4 : decode cX6_high 4 = .ok (.aload_n 0, 1) := by decide +kernel
theorem dX6_high_5 : decode cX6_high 5 = .ok (.getfield 12, 3) := by decide +kernel
theorem dX6_high_8 : decode cX6_high 8 = .ok (.invokevirtual 157, 3) := by decide +kernel
theorem dX6_high_11 : decode cX6_high 11 = .ok (.aload_n 0, 1) := by decide +kernel
theorem dX6_high_12 : decode cX6_high 12 = .ok (.getfield 39, 3) := by decide +kernel
theorem dX6_high_15 : decode cX6_high 15 = .ok (.aload_n 0, 1) := by decide +kernel
theorem dX6_high_16 : decode cX6_high 16 = .ok (.getfield 12, 3) := by decide +kernel
theorem dX6_high_19 : decode cX6_high 19 = .ok (.aload_n 0, 1) := by decide +kernel
theorem dX6_high_20 : decode cX6_high 20 = .ok (.getfield 32, 3) := by decide +kernel
theorem dX6_high_23 : decode cX6_high 23 = .ok (.invokevirtual 165, 3) := by decide +kernel
theorem dX6_high_26 : decode cX6_high 26 = .ok (.aload_n 0, 1) := by decide +kernel
theorem dX6_high_27 : decode cX6_high 27 = .ok (.getfield 39, 3) := by decide +kernel
theorem dX6_high_30 : decode cX6_high 30 = .ok (.aload_n 0, 1) := by decide +kernel
theorem dX6_high_31 : decode cX6_high 31 = .ok (.getfield 19, 3) := by decide +kernel
theorem dX6_high_34 : decode cX6_high 34 = .ok (.invokevirtual 171, 3) := by decide +kernel
theorem dX6_high_37 : decode cX6_high 37 = .ok (.ireturn, 1) := by decide +kernel
theorem dX6_count_0 : decode cX6_count 0 = .ok (.iload_n 1, 1) := by decide +kernel
theorem dX6_count_1 : decode cX6_count 1 = .ok (.tableswitch 91 0 5 #[39, 47, 55, 63, 68, 76], 39) := by decide +kernel
theorem dX6_count_40 : decode cX6_count 40 = .ok (.aload_n 0, 1) := by decide +kernel
theorem dX6_count_41 : decode cX6_count 41 = .ok (.getfield 12, 3) := by decide +kernel
theorem dX6_count_44 : decode cX6_count 44 = .ok (.getfield 175, 3) := by decide +kernel
theorem dX6_count_47 : decode cX6_count 47 = .ok (.ireturn, 1) := by decide +kernel
theorem dX6_count_48 : decode cX6_count 48 = .ok (.aload_n 0, 1) := by decide +kernel
theorem dX6_count_49 : decode cX6_count 49 = .ok (.getfield 12, 3) := by decide +kernel
theorem dX6_count_52 : decode cX6_count 52 = .ok (.getfield 178, 3) := by decide +kernel
theorem dX6_count_55 : decode cX6_count 55 = .ok (.ireturn, 1) := by decide +kernel
theorem dX6_count_56 : decode cX6_count 56 = .ok (.aload_n 0, 1) := by decide +kernel
theorem dX6_count_57 : decode cX6_count 57 = .ok (.getfield 12, 3) := by decide +kernel
theorem dX6_count_60 : decode cX6_count 60 = .ok (.getfield 55, 3) := by decide +kernel
theorem dX6_count_63 : decode cX6_count 63 = .ok (.ireturn, 1) := by decide +kernel
theorem dX6_count_64 : decode cX6_count 64 = .ok (.aload_n 0, 1) := by decide +kernel
theorem dX6_count_65 : decode cX6_count 65 = .ok (.getfield 50, 3) := by decide +kernel
theorem dX6_count_68 : decode cX6_count 68 = .ok (.ireturn, 1) := by decide +kernel
theorem dX6_count_69 : decode cX6_count 69 = .ok (.aload_n 0, 1) := by decide +kernel
theorem dX6_count_70 : decode cX6_count 70 = .ok (.getfield 19, 3) := by decide +kernel
theorem dX6_count_73 : decode cX6_count 73 = .ok (.getfield 84, 3) := by decide +kernel
theorem dX6_count_76 : decode cX6_count 76 = .ok (.ireturn, 1) := by decide +kernel
theorem dX6_count_77 : decode cX6_count 77 = .ok (.aload_n 0, 1) := by decide +kernel
theorem dX6_count_78 : decode cX6_count 78 = .ok (.getfield 12, 3) := by decide +kernel
theorem dX6_count_81 : decode cX6_count 81 = .ok (.aload_n 0, 1) := by decide +kernel
theorem dX6_count_82 : decode cX6_count 82 = .ok (.getfield 19, 3) := by decide +kernel
theorem dX6_count_85 : decode cX6_count 85 = .ok (.invokevirtual 100, 3) := by decide +kernel
theorem dX6_count_88 : decode cX6_count 88 = .ok (.invokevirtual 181, 3) := by decide +kernel
theorem dX6_count_91 : decode cX6_count 91 = .ok (.ireturn, 1) := by decide +kernel
theorem dX6_count_92 : decode cX6_count 92 = .ok (.bipush (-2), 2) := by decide +kernel
theorem dX6_count_94 : decode cX6_count 94 = .ok (.ireturn, 1) := by decide +kernel
theorem dX6_isSet_0 : decode cX6_isSet 0 = .ok (.iload_n 1, 1) := by decide +kernel
theorem dX6_isSet_1 : decode cX6_isSet 1 = .ok (.ifCond .lt 15, 3) := by decide +kernel
theorem dX6_isSet_4 : decode cX6_isSet 4 = .ok (.iload_n 1, 1) := by decide +kernel
theorem dX6_isSet_5 : decode cX6_isSet 5 = .ok (.aload_n 0, 1) := by decide +kernel
theorem dX6_isSet_6 : decode cX6_isSet 6 = .ok (.getfield 50, 3) := by decide +kernel
theorem dX6_isSet_9 : decode cX6_isSet 9 = .ok (.if_icmp .ge 7, 3) := by decide +kernel
theorem dX6_isSet_12 : decode cX6_isSet 12 = .ok (.iconst 1, 1) := by decide +kernel
theorem dX6_isSet_13 : decode cX6_isSet 13 = .ok (.goto 4, 3) := by decide +kernel
theorem dX6_isSet_16 : decode cX6_isSet 16 = .ok (.iconst 0, 1) := by decide +kernel
theorem dX6_isSet_17 : decode cX6_isSet 17 = .ok (.ireturn, 1) := by decide +kernel
theorem dX6_isPlace_0 : decode cX6_isPlace 0 = .ok (.iload_n 1, 1) := by decide +kernel
theorem dX6_isPlace_1 : decode cX6_isPlace 1 = .ok (.ifCond .ne 14, 3) := by decide +kernel
theorem dX6_isPlace_4 : decode cX6_isPlace 4 = .ok (.aload_n 0, 1) := by decide +kernel
theorem dX6_isPlace_5 : decode cX6_isPlace 5 = .ok (.getfield 12, 3) := by decide +kernel
theorem dX6_isPlace_8 : decode cX6_isPlace 8 = .ok (.iload_n 2, 1) := by decide +kernel
theorem dX6_isPlace_9 : decode cX6_isPlace 9 = .ok (.invokevirtual 65, 3) := by decide +kernel
theorem dX6_isPlace_12 : decode cX6_isPlace 12 = .ok (.goto 23, 3) := by decide +kernel
theorem dX6_isPlace_15 : decode cX6_isPlace 15 = .ok (.iload_n 1, 1) := by decide +kernel
theorem dX6_isPlace_16 : decode cX6_isPlace 16 = .ok (.iconst 1, 1) := by decide +kernel
theorem dX6_isPlace_17 : decode cX6_isPlace 17 = .ok (.if_icmp .ne 17, 3) := by decide +kernel
theorem dX6_isPlace_20 : decode cX6_isPlace 20 = .ok (.iload_n 2, 1) := by decide +kernel
theorem dX6_isPlace_21 : decode cX6_isPlace 21 = .ok (.ifCond .lt 13, 3) := by decide +kernel
theorem dX6_isPlace_24 : decode cX6_isPlace 24 = .ok (.iload_n 2, 1) := by decide +kernel
theorem dX6_isPlace_25 : decode cX6_isPlace 25 = .ok (.bipush 6, 2) := by decide +kernel
theorem dX6_isPlace_27 : decode cX6_isPlace 27 = .ok (.if_icmp .ge 7, 3) := by decide +kernel
theorem dX6_isPlace_30 : decode cX6_isPlace 30 = .ok (.iconst 1, 1) := by decide +kernel
theorem dX6_isPlace_31 : decode cX6_isPlace 31 = .ok (.goto 4, 3) := by decide +kernel
theorem dX6_isPlace_34 : decode cX6_isPlace 34 = .ok (.iconst 0, 1) := by decide +kernel
theorem dX6_isPlace_35 : decode cX6_isPlace 35 = .ok (.ireturn, 1) := by decide +kernel
theorem dX6_placeOf_0 : decode cX6_placeOf 0 = .ok (.iload_n 0, 1) := by decide +kernel
theorem dX6_placeOf_1 : decode cX6_placeOf 1 = .ok (.ifCond .ne 7, 3) := by decide +kernel
theorem dX6_placeOf_4 : decode cX6_placeOf 4 = .ok (.iload_n 1, 1) := by decide +kernel
theorem dX6_placeOf_5 : decode cX6_placeOf 5 = .ok (.goto 6, 3) := by decide +kernel
theorem dX6_placeOf_8 : decode cX6_placeOf 8 = .ok (.iconst 5, 1) := by decide +kernel
theorem dX6_placeOf_9 : decode cX6_placeOf 9 = .ok (.iload_n 1, 1) := by decide +kernel
theorem dX6_placeOf_10 : decode cX6_placeOf 10 = .ok (.iadd, 1) := by decide +kernel
theorem dX6_placeOf_11 : decode cX6_placeOf 11 = .ok (.ireturn, 1) := by decide +kernel
theorem dX6_headOf_0 : decode cX6_headOf 0 = .ok (.iload_n 0, 1) := by decide +kernel
theorem dX6_headOf_1 : decode cX6_headOf 1 = .ok (.iconst 5, 1) := by decide +kernel
theorem dX6_headOf_2 : decode cX6_headOf 2 = .ok (.imul, 1) := by decide +kernel
theorem dX6_headOf_3 : decode cX6_headOf 3 = .ok (.iload_n 1, 1) := by decide +kernel
theorem dX6_headOf_4 : decode cX6_headOf 4 = .ok (.iadd, 1) := by decide +kernel
theorem dX6_headOf_5 : decode cX6_headOf 5 = .ok (.ireturn, 1) := by decide +kernel
theorem dX6_told_0 : decode cX6_told 0 = .ok (.lload_n 0, 1) := by decide +kernel
theorem dX6_told_1 : decode cX6_told 1 = .ok (.ldc2_w 185, 3) := by decide +kernel
theorem dX6_told_4 : decode cX6_told 4 = .ok (.lcmp, 1) := by decide +kernel
theorem dX6_told_5 : decode cX6_told 5 = .ok (.ifCond .ne 9, 3) := by decide +kernel
theorem dX6_told_8 : decode cX6_told 8 = .ok (.ldc2_w 187, 3) := by decide +kernel
theorem dX6_told_11 : decode cX6_told 11 = .ok (.goto 4, 3) := by decide +kernel
theorem dX6_told_14 : decode cX6_told 14 = .ok (.lload_n 0, 1) := by decide +kernel
theorem dX6_told_15 : decode cX6_told 15 = .ok (.lreturn, 1) := by decide +kernel
theorem dX6_hasBit_0 : decode cX6_hasBit 0 = .ok (.iload_n 0, 1) := by decide +kernel
theorem dX6_hasBit_1 : decode cX6_hasBit 1 = .ok (.iload_n 1, 1) := by decide +kernel
theorem dX6_hasBit_2 : decode cX6_hasBit 2 = .ok (.ishr, 1) := by decide +kernel
theorem dX6_hasBit_3 : decode cX6_hasBit 3 = .ok (.iconst 1, 1) := by decide +kernel
theorem dX6_hasBit_4 : decode cX6_hasBit 4 = .ok (.iand, 1) := by decide +kernel
theorem dX6_hasBit_5 : decode cX6_hasBit 5 = .ok (.ifCond .eq 7, 3) := by decide +kernel
theorem dX6_hasBit_8 : decode cX6_hasBit 8 = .ok (.iconst 1, 1) := by decide +kernel
theorem dX6_hasBit_9 : decode cX6_hasBit 9 = .ok (.goto 4, 3) := by decide +kernel
theorem dX6_hasBit_12 : decode cX6_hasBit 12 = .ok (.iconst 0, 1) := by decide +kernel
theorem dX6_hasBit_13 : decode cX6_hasBit 13 = .ok (.ireturn, 1) := by decide +kernel
theorem dX6_sum_0 : decode cX6_sum 0 = .ok (.lload_n 0, 1) := by decide +kernel
theorem dX6_sum_1 : decode cX6_sum 1 = .ok (.ldc2_w 185, 3) := by decide +kernel
theorem dX6_sum_4 : decode cX6_sum 4 = .ok (.lcmp, 1) := by decide +kernel
theorem dX6_sum_5 : decode cX6_sum 5 = .ok (.ifCond .eq 11, 3) := by decide +kernel
theorem dX6_sum_8 : decode cX6_sum 8 = .ok (.lload_n 2, 1) := by decide +kernel
theorem dX6_sum_9 : decode cX6_sum 9 = .ok (.ldc2_w 185, 3) := by decide +kernel
theorem dX6_sum_12 : decode cX6_sum 12 = .ok (.lcmp, 1) := by decide +kernel
theorem dX6_sum_13 : decode cX6_sum 13 = .ok (.ifCond .ne 7, 3) := by decide +kernel
theorem dX6_sum_16 : decode cX6_sum 16 = .ok (.ldc2_w 185, 3) := by decide +kernel
theorem dX6_sum_19 : decode cX6_sum 19 = .ok (.lreturn, 1) := by decide +kernel
theorem dX6_sum_20 : decode cX6_sum 20 = .ok (.ldc2_w 147, 3) := by decide +kernel
theorem dX6_sum_23 : decode cX6_sum 23 = .ok (.lload_n 0, 1) := by decide +kernel
theorem dX6_sum_24 : decode cX6_sum 24 = .ok (.lload_n 2, 1) := by decide +kernel
theorem dX6_sum_25 : decode cX6_sum 25 = .ok (.ladd, 1) := by decide +kernel
theorem dX6_sum_26 : decode cX6_sum 26 = .ok (.invokestatic 189, 3) := by decide +kernel
theorem dX6_sum_29 : decode cX6_sum 29 = .ok (.lreturn, 1) := by decide +kernel
theorem dX6_distance_0 : decode cX6_distance 0 = .ok (.aload_n 0, 1) := by decide +kernel
theorem dX6_distance_1 : decode cX6_distance 1 = .ok (.getfield 25, 3) := by decide +kernel
theorem dX6_distance_4 : decode cX6_distance 4 = .ok (.iload_n 1, 1) := by decide +kernel
theorem dX6_distance_5 : decode cX6_distance 5 = .ok (.aaload, 1) := by decide +kernel
theorem dX6_distance_6 : decode cX6_distance 6 = .ok (.astore_n 2, 1) := by decide +kernel
theorem dX6_distance_7 : decode cX6_distance 7 = .ok (.aload_n 0, 1) := by decide +kernel
theorem dX6_distance_8 : decode cX6_distance 8 = .ok (.getfield 32, 3) := by decide +kernel
theorem dX6_distance_11 : decode cX6_distance 11 = .ok (.aload_n 0, 1) := by decide +kernel
theorem dX6_distance_12 : decode cX6_distance 12 = .ok (.getfield 12, 3) := by decide +kernel
theorem dX6_distance_15 : decode cX6_distance 15 = .ok (.invokevirtual 157, 3) := by decide +kernel
theorem dX6_distance_18 : decode cX6_distance 18 = .ok (.aload_n 2, 1) := by decide +kernel
theorem dX6_distance_19 : decode cX6_distance 19 = .ok (.aload_n 0, 1) := by decide +kernel
theorem dX6_distance_20 : decode cX6_distance 20 = .ok (.getfield 12, 3) := by decide +kernel
theorem dX6_distance_23 : decode cX6_distance 23 = .ok (.aload_n 0, 1) := by decide +kernel
theorem dX6_distance_24 : decode cX6_distance 24 = .ok (.getfield 32, 3) := by decide +kernel
theorem dX6_distance_27 : decode cX6_distance 27 = .ok (.invokevirtual 195, 3) := by decide +kernel
theorem dX6_distance_30 : decode cX6_distance 30 = .ok (.aload_n 0, 1) := by decide +kernel
theorem dX6_distance_31 : decode cX6_distance 31 = .ok (.getfield 46, 3) := by decide +kernel
theorem dX6_distance_34 : decode cX6_distance 34 = .ok (.aload_n 2, 1) := by decide +kernel
theorem dX6_distance_35 : decode cX6_distance 35 = .ok (.invokevirtual 196, 3) := by decide +kernel
theorem dX6_distance_38 : decode cX6_distance 38 = .ok (.aload_n 0, 1) := by decide +kernel
theorem dX6_distance_39 : decode cX6_distance 39 = .ok (.getfield 46, 3) := by decide +kernel
theorem dX6_distance_42 : decode cX6_distance 42 = .ok (.aload_n 2, 1) := by decide +kernel
theorem dX6_distance_43 : decode cX6_distance 43 = .ok (.aload_n 0, 1) := by decide +kernel
theorem dX6_distance_44 : decode cX6_distance 44 = .ok (.getfield 19, 3) := by decide +kernel
theorem dX6_distance_47 : decode cX6_distance 47 = .ok (.iconst 0, 1) := by decide +kernel
theorem dX6_distance_48 : decode cX6_distance 48 = .ok (.invokevirtual 153, 3) := by decide +kernel
theorem dX6_distance_51 : decode cX6_distance 51 = .ok (.aload_n 0, 1) := by decide +kernel
theorem dX6_distance_52 : decode cX6_distance 52 = .ok (.getfield 46, 3) := by decide +kernel
theorem dX6_distance_55 : decode cX6_distance 55 = .ok (.getfield 200, 3) := by decide +kernel
theorem dX6_distance_58 : decode cX6_distance 58 = .ok (.aload_n 0, 1) := by decide +kernel
theorem dX6_distance_59 : decode cX6_distance 59 = .ok (.getfield 19, 3) := by decide +kernel
theorem dX6_distance_62 : decode cX6_distance 62 = .ok (.getfield 84, 3) := by decide +kernel
theorem dX6_distance_65 : decode cX6_distance 65 = .ok (.bipush 11, 2) := by decide +kernel
theorem dX6_distance_67 : decode cX6_distance 67 = .ok (.imul, 1) := by decide +kernel
theorem dX6_distance_68 : decode cX6_distance 68 = .ok (.aload_n 0, 1) := by decide +kernel
theorem dX6_distance_69 : decode cX6_distance 69 = .ok (.getfield 19, 3) := by decide +kernel
theorem dX6_distance_72 : decode cX6_distance 72 = .ok (.getfield 90, 3) := by decide +kernel
theorem dX6_distance_75 : decode cX6_distance 75 = .ok (.iadd, 1) := by decide +kernel
theorem dX6_distance_76 : decode cX6_distance 76 = .ok (.laload, 1) := by decide +kernel
theorem dX6_distance_77 : decode cX6_distance 77 = .ok (.lreturn, 1) := by decide +kernel
theorem dX6_nearing_0 : decode cX6_nearing 0 = .ok (.aload_n 0, 1) := by decide +kernel
theorem dX6_nearing_1 : decode cX6_nearing 1 = .ok (.getfield 19, 3) := by decide +kernel
theorem dX6_nearing_4 : decode cX6_nearing 4 = .ok (.invokevirtual 100, 3) := by decide +kernel
theorem dX6_nearing_7 : decode cX6_nearing 7 = .ok (.istore 4, 2) := by decide +kernel
theorem dX6_nearing_9 : decode cX6_nearing 9 = .ok (.iconst 0, 1) := by decide +kernel
theorem dX6_nearing_10 : decode cX6_nearing 10 = .ok (.istore 5, 2) := by decide +kernel
theorem dX6_nearing_12 : decode cX6_nearing 12 = .ok (.iload 5, 2) := by decide +kernel
theorem dX6_nearing_14 : decode cX6_nearing 14 = .ok (.aload_n 0, 1) := by decide +kernel
theorem dX6_nearing_15 : decode cX6_nearing 15 = .ok (.getfield 12, 3) := by decide +kernel
theorem dX6_nearing_18 : decode cX6_nearing 18 = .ok (.getfield 55, 3) := by decide +kernel
theorem dX6_nearing_21 : decode cX6_nearing 21 = .ok (.if_icmp .ge 62, 3) := by decide +kernel
theorem dX6_nearing_24 : decode cX6_nearing 24 = .ok (.aload_n 0, 1) := by decide +kernel
theorem dX6_nearing_25 : decode cX6_nearing 25 = .ok (.getfield 12, 3) := by decide +kernel
theorem dX6_nearing_28 : decode cX6_nearing 28 = .ok (.getfield 97, 3) := by decide +kernel
theorem dX6_nearing_31 : decode cX6_nearing 31 = .ok (.iload 5, 2) := by decide +kernel
theorem dX6_nearing_33 : decode cX6_nearing 33 = .ok (.iaload, 1) := by decide +kernel
theorem dX6_nearing_34 : decode cX6_nearing 34 = .ok (.iload 4, 2) := by decide +kernel
theorem dX6_nearing_36 : decode cX6_nearing 36 = .ok (.if_icmp .ne 41, 3) := by decide +kernel
theorem dX6_nearing_39 : decode cX6_nearing 39 = .ok (.aload_n 0, 1) := by decide +kernel
theorem dX6_nearing_40 : decode cX6_nearing 40 = .ok (.getfield 46, 3) := by decide +kernel
theorem dX6_nearing_43 : decode cX6_nearing 43 = .ok (.aload_n 0, 1) := by decide +kernel
theorem dX6_nearing_44 : decode cX6_nearing 44 = .ok (.getfield 25, 3) := by decide +kernel
theorem dX6_nearing_47 : decode cX6_nearing 47 = .ok (.iload_n 1, 1) := by decide +kernel
theorem dX6_nearing_48 : decode cX6_nearing 48 = .ok (.aaload, 1) := by decide +kernel
theorem dX6_nearing_49 : decode cX6_nearing 49 = .ok (.aload_n 0, 1) := by decide +kernel
theorem dX6_nearing_50 : decode cX6_nearing 50 = .ok (.getfield 12, 3) := by decide +kernel
theorem dX6_nearing_53 : decode cX6_nearing 53 = .ok (.iload 5, 2) := by decide +kernel
theorem dX6_nearing_55 : decode cX6_nearing 55 = .ok (.aload_n 0, 1) := by decide +kernel
theorem dX6_nearing_56 : decode cX6_nearing 56 = .ok (.getfield 19, 3) := by decide +kernel
theorem dX6_nearing_59 : decode cX6_nearing 59 = .ok (.getfield 84, 3) := by decide +kernel
theorem dX6_nearing_62 : decode cX6_nearing 62 = .ok (.iconst 1, 1) := by decide +kernel
theorem dX6_nearing_63 : decode cX6_nearing 63 = .ok (.isub, 1) := by decide +kernel
theorem dX6_nearing_64 : decode cX6_nearing 64 = .ok (.invokevirtual 203, 3) := by decide +kernel
theorem dX6_nearing_67 : decode cX6_nearing 67 = .ok (.lload_n 2, 1) := by decide +kernel
theorem dX6_nearing_68 : decode cX6_nearing 68 = .ok (.lconst 1, 1) := by decide +kernel
theorem dX6_nearing_69 : decode cX6_nearing 69 = .ok (.lsub, 1) := by decide +kernel
theorem dX6_nearing_70 : decode cX6_nearing 70 = .ok (.lcmp, 1) := by decide +kernel
theorem dX6_nearing_71 : decode cX6_nearing 71 = .ok (.ifCond .ne 6, 3) := by decide +kernel
theorem dX6_nearing_74 : decode cX6_nearing 74 = .ok (.iload 5, 2) := by decide +kernel
theorem dX6_nearing_76 : decode cX6_nearing 76 = .ok (.ireturn, 1) := by decide +kernel
theorem dX6_nearing_77 : decode cX6_nearing 77 = .ok (.iinc 5 1, 3) := by decide +kernel
theorem dX6_nearing_80 : decode cX6_nearing 80 = .ok (.goto (-68), 3) := by decide +kernel
theorem dX6_nearing_83 : decode cX6_nearing 83 = .ok (.bipush (-3), 2) := by decide +kernel
theorem dX6_nearing_85 : decode cX6_nearing 85 = .ok (.ireturn, 1) := by decide +kernel
end
section
theorem dX7_init_0 : decode cX7_init 0 = .ok (.aload_n 0, 1) := by decide +kernel
theorem dX7_init_1 : decode cX7_init 1 = .ok (.invokespecial 1, 3) := by decide +kernel
theorem dX7_init_4 : decode cX7_init 4 = .ok (.aload_n 0, 1) := by decide +kernel
theorem dX7_init_5 : decode cX7_init 5 = .ok (.iconst 2, 1) := by decide +kernel
theorem dX7_init_6 : decode cX7_init 6 = .ok (.putfield 7, 3) := by decide +kernel
theorem dX7_init_9 : decode cX7_init 9 = .ok (.aload_n 0, 1) := by decide +kernel
theorem dX7_init_10 : decode cX7_init 10 = .ok (.iconst 2, 1) := by decide +kernel
theorem dX7_init_11 : decode cX7_init 11 = .ok (.putfield 13, 3) := by decide +kernel
theorem dX7_init_14 : decode cX7_init 14 = .ok (.aload_n 0, 1) := by decide +kernel
theorem dX7_init_15 : decode cX7_init 15 = .ok (.bipush 30, 2) := by decide +kernel
theorem dX7_init_17 : decode cX7_init 17 = .ok (.newarray .int, 2) := by decide +kernel
theorem dX7_init_19 : decode cX7_init 19 = .ok (.putfield 16, 3) := by decide +kernel
theorem dX7_init_22 : decode cX7_init 22 = .ok (.aload_n 0, 1) := by decide +kernel
theorem dX7_init_23 : decode cX7_init 23 = .ok (.bipush 30, 2) := by decide +kernel
theorem dX7_init_25 : decode cX7_init 25 = .ok (.newarray .int, 2) := by decide +kernel
theorem dX7_init_27 : decode cX7_init 27 = .ok (.putfield 20, 3) := by decide +kernel
theorem dX7_init_30 : decode cX7_init 30 = .ok (.aload_n 0, 1) := by decide +kernel
theorem dX7_init_31 : decode cX7_init 31 = .ok (.bipush 30, 2) := by decide +kernel
theorem dX7_init_33 : decode cX7_init 33 = .ok (.newarray .int, 2) := by decide +kernel
theorem dX7_init_35 : decode cX7_init 35 = .ok (.putfield 23, 3) := by decide +kernel
theorem dX7_init_38 : decode cX7_init 38 = .ok (.aload_n 0, 1) := by decide +kernel
theorem dX7_init_39 : decode cX7_init 39 = .ok (.bipush 30, 2) := by decide +kernel
theorem dX7_init_41 : decode cX7_init 41 = .ok (.newarray .int, 2) := by decide +kernel
theorem dX7_init_43 : decode cX7_init 43 = .ok (.putfield 26, 3) := by decide +kernel
theorem dX7_init_46 : decode cX7_init 46 = .ok (.aload_n 0, 1) := by decide +kernel
theorem dX7_init_47 : decode cX7_init 47 = .ok (.bipush 30, 2) := by decide +kernel
theorem dX7_init_49 : decode cX7_init 49 = .ok (.newarray .int, 2) := by decide +kernel
theorem dX7_init_51 : decode cX7_init 51 = .ok (.putfield 29, 3) := by decide +kernel
theorem dX7_init_54 : decode cX7_init 54 = .ok (.aload_n 0, 1) := by decide +kernel
theorem dX7_init_55 : decode cX7_init 55 = .ok (.bipush 60, 2) := by decide +kernel
theorem dX7_init_57 : decode cX7_init 57 = .ok (.newarray .int, 2) := by decide +kernel
theorem dX7_init_59 : decode cX7_init 59 = .ok (.putfield 32, 3) := by decide +kernel
theorem dX7_init_62 : decode cX7_init 62 = .ok (.aload_n 0, 1) := by decide +kernel
theorem dX7_init_63 : decode cX7_init 63 = .ok (.bipush 6, 2) := by decide +kernel
theorem dX7_init_65 : decode cX7_init 65 = .ok (.newarray .int, 2) := by decide +kernel
theorem dX7_init_67 : decode cX7_init 67 = .ok (.putfield 35, 3) := by decide +kernel
theorem dX7_init_70 : decode cX7_init 70 = .ok (.aload_n 0, 1) := by decide +kernel
theorem dX7_init_71 : decode cX7_init 71 = .ok (.sipush 144, 3) := by decide +kernel
theorem dX7_init_74 : decode cX7_init 74 = .ok (.newarray .int, 2) := by decide +kernel
theorem dX7_init_76 : decode cX7_init 76 = .ok (.putfield 38, 3) := by decide +kernel
theorem dX7_init_79 : decode cX7_init 79 = .ok (.aload_n 0, 1) := by decide +kernel
theorem dX7_init_80 : decode cX7_init 80 = .ok (.sipush 144, 3) := by decide +kernel
theorem dX7_init_83 : decode cX7_init 83 = .ok (.newarray .int, 2) := by decide +kernel
theorem dX7_init_85 : decode cX7_init 85 = .ok (.putfield 41, 3) := by decide +kernel
theorem dX7_init_88 : decode cX7_init 88 = .ok (.aload_n 0, 1) := by decide +kernel
theorem dX7_init_89 : decode cX7_init 89 = .ok (.sipush 144, 3) := by decide +kernel
theorem dX7_init_92 : decode cX7_init 92 = .ok (.newarray .int, 2) := by decide +kernel
theorem dX7_init_94 : decode cX7_init 94 = .ok (.putfield 44, 3) := by decide +kernel
theorem dX7_init_97 : decode cX7_init 97 = .ok (.aload_n 0, 1) := by decide +kernel
theorem dX7_init_98 : decode cX7_init 98 = .ok (.bipush 66, 2) := by decide +kernel
theorem dX7_init_100 : decode cX7_init 100 = .ok (.newarray .boolean, 2) := by decide +kernel
theorem dX7_init_102 : decode cX7_init 102 = .ok (.putfield 47, 3) := by decide +kernel
theorem dX7_init_105 : decode cX7_init 105 = .ok (.aload_n 0, 1) := by decide +kernel
theorem dX7_init_106 : decode cX7_init 106 = .ok (.sipush 275, 3) := by decide +kernel
theorem dX7_init_109 : decode cX7_init 109 = .ok (.newarray .long, 2) := by decide +kernel
theorem dX7_init_111 : decode cX7_init 111 = .ok (.putfield 51, 3) := by decide +kernel
theorem dX7_init_114 : decode cX7_init 114 = .ok (.aload_n 0, 1) := by decide +kernel
theorem dX7_init_115 : decode cX7_init 115 = .ok (.sipush 330, 3) := by decide +kernel
theorem dX7_init_118 : decode cX7_init 118 = .ok (.newarray .boolean, 2) := by decide +kernel
theorem dX7_init_120 : decode cX7_init 120 = .ok (.putfield 55, 3) := by decide +kernel
theorem dX7_init_123 : decode cX7_init 123 = .ok (.aload_n 0, 1) := by decide +kernel
theorem dX7_init_124 : decode cX7_init 124 = .ok (.sipush 275, 3) := by decide +kernel
theorem dX7_init_127 : decode cX7_init 127 = .ok (.newarray .boolean, 2) := by decide +kernel
theorem dX7_init_129 : decode cX7_init 129 = .ok (.putfield 58, 3) := by decide +kernel
theorem dX7_init_132 : decode cX7_init 132 = .ok (.aload_n 0, 1) := by decide +kernel
theorem dX7_init_133 : decode cX7_init 133 = .ok (.sipush 275, 3) := by decide +kernel
theorem dX7_init_136 : decode cX7_init 136 = .ok (.newarray .long, 2) := by decide +kernel
theorem dX7_init_138 : decode cX7_init 138 = .ok (.putfield 61, 3) := by decide +kernel
theorem dX7_init_141 : decode cX7_init 141 = .ok (.aload_n 0, 1) := by decide +kernel
theorem dX7_init_142 : decode cX7_init 142 = .ok (.sipush 671, 3) := by decide +kernel
theorem dX7_init_145 : decode cX7_init 145 = .ok (.newarray .long, 2) := by decide +kernel
theorem dX7_init_147 : decode cX7_init 147 = .ok (.putfield 64, 3) := by decide +kernel
theorem dX7_init_150 : decode cX7_init 150 = .ok (.aload_n 0, 1) := by decide +kernel
theorem dX7_init_151 : decode cX7_init 151 = .ok (.bipush 25, 2) := by decide +kernel
theorem dX7_init_153 : decode cX7_init 153 = .ok (.newarray .int, 2) := by decide +kernel
theorem dX7_init_155 : decode cX7_init 155 = .ok (.putfield 67, 3) := by decide +kernel
theorem dX7_init_158 : decode cX7_init 158 = .ok (.aload_n 0, 1) := by decide +kernel
theorem dX7_init_159 : decode cX7_init 159 = .ok (.bipush 25, 2) := by decide +kernel
theorem dX7_init_161 : decode cX7_init 161 = .ok (.newarray .int, 2) := by decide +kernel
theorem dX7_init_163 : decode cX7_init 163 = .ok (.putfield 70, 3) := by decide +kernel
theorem dX7_init_166 : decode cX7_init 166 = .ok (.return_, 1) := by decide +kernel
theorem dX7_isIn_0 : decode cX7_isIn 0 = .ok (.lload_n 0, 1) := by decide +kernel
theorem dX7_isIn_1 : decode cX7_isIn 1 = .ok (.lload_n 2, 1) := by decide +kernel
theorem dX7_isIn_2 : decode cX7_isIn 2 = .ok (.lcmp, 1) := by decide +kernel
theorem dX7_isIn_3 : decode cX7_isIn 3 = .ok (.ifCond .lt 14, 3) := by decide +kernel
theorem dX7_isIn_6 : decode cX7_isIn 6 = .ok (.lload_n 0, 1) := by decide +kernel
theorem dX7_isIn_7 : decode cX7_isIn 7 = .ok (.lload 4, 2) := by decide +kernel
theorem dX7_isIn_9 : decode cX7_isIn 9 = .ok (.lcmp, 1) := by decide +kernel
theorem dX7_isIn_10 : decode cX7_isIn 10 = .ok (.ifCond .gt 7, 3) := by decide +kernel
theorem dX7_isIn_13 : decode cX7_isIn 13 = .ok (.iconst 1, 1) := by decide +kernel
theorem dX7_isIn_14 : decode cX7_isIn 14 = .ok (.goto 4, 3) := by decide +kernel
theorem dX7_isIn_17 : decode cX7_isIn 17 = .ok (.iconst 0, 1) := by decide +kernel
theorem dX7_isIn_18 : decode cX7_isIn 18 = .ok (.ireturn, 1) := by decide +kernel
theorem dX7_isControl_0 : decode cX7_isControl 0 = .ok (.iload_n 1, 1) := by decide +kernel
theorem dX7_isControl_1 : decode cX7_isControl 1 = .ok (.i2l, 1) := by decide +kernel
theorem dX7_isControl_2 : decode cX7_isControl 2 = .ok (.lconst 0, 1) := by decide +kernel
theorem dX7_isControl_3 : decode cX7_isControl 3 = .ok (.aload_n 0, 1) := by decide +kernel
theorem dX7_isControl_4 : decode cX7_isControl 4 = .ok (.getfield 7, 3) := by decide +kernel
theorem dX7_isControl_7 : decode cX7_isControl 7 = .ok (.iconst 1, 1) := by decide +kernel
theorem dX7_isControl_8 : decode cX7_isControl 8 = .ok (.isub, 1) := by decide +kernel
theorem dX7_isControl_9 : decode cX7_isControl 9 = .ok (.i2l, 1) := by decide +kernel
theorem dX7_isControl_10 : decode cX7_isControl 10 = .ok (.invokestatic 73, 3) := by decide +kernel
theorem dX7_isControl_13 : decode cX7_isControl 13 = .ok (.ireturn, 1) := by decide +kernel
theorem dX7_isSign_0 : decode cX7_isSign 0 = .ok (.iload_n 1, 1) := by decide +kernel
theorem dX7_isSign_1 : decode cX7_isSign 1 = .ok (.i2l, 1) := by decide +kernel
theorem dX7_isSign_2 : decode cX7_isSign 2 = .ok (.lconst 0, 1) := by decide +kernel
theorem dX7_isSign_3 : decode cX7_isSign 3 = .ok (.aload_n 0, 1) := by decide +kernel
theorem dX7_isSign_4 : decode cX7_isSign 4 = .ok (.getfield 13, 3) := by decide +kernel
theorem dX7_isSign_7 : decode cX7_isSign 7 = .ok (.iconst 1, 1) := by decide +kernel
theorem dX7_isSign_8 : decode cX7_isSign 8 = .ok (.isub, 1) := by decide +kernel
theorem dX7_isSign_9 : decode cX7_isSign 9 = .ok (.i2l, 1) := by decide +kernel
theorem dX7_isSign_10 : decode cX7_isSign 10 = .ok (.invokestatic 73, 3) := by decide +kernel
theorem dX7_isSign_13 : decode cX7_isSign 13 = .ok (.ireturn, 1) := by decide +kernel
theorem dX7_machine_0 : decode cX7_machine 0 = .ok (.iload_n 1, 1) := by decide +kernel
theorem dX7_machine_1 : decode cX7_machine 1 = .ok (.i2l, 1) := by decide +kernel
theorem dX7_machine_2 : decode cX7_machine 2 = .ok (.lconst 1, 1) := by decide +kernel
theorem dX7_machine_3 : decode cX7_machine 3 = .ok (.ldc2_w 77, 3) := by decide +kernel
theorem dX7_machine_6 : decode cX7_machine 6 = .ok (.invokestatic 73, 3) := by decide +kernel
theorem dX7_machine_9 : decode cX7_machine 9 = .ok (.ifCond .eq 15, 3) := by decide +kernel
theorem dX7_machine_12 : decode cX7_machine 12 = .ok (.iload_n 2, 1) := by decide +kernel
theorem dX7_machine_13 : decode cX7_machine 13 = .ok (.i2l, 1) := by decide +kernel
theorem dX7_machine_14 : decode cX7_machine 14 = .ok (.lconst 1, 1) := by decide +kernel
theorem dX7_machine_15 : decode cX7_machine 15 = .ok (.ldc2_w 77, 3) := by decide +kernel
theorem dX7_machine_18 : decode cX7_machine 18 = .ok (.invokestatic 73, 3) := by decide +kernel
theorem dX7_machine_21 : decode cX7_machine 21 = .ok (.ifCond .ne 6, 3) := by decide +kernel
theorem dX7_machine_24 : decode cX7_machine 24 = .ok (.bipush (-2), 2) := by decide +kernel
theorem dX7_machine_26 : decode cX7_machine 26 = .ok (.ireturn, 1) := by decide +kernel
theorem dX7_machine_27 : decode cX7_machine 27 = .ok (.aload_n 0, 1) := by decide +kernel
theorem dX7_machine_28 : decode cX7_machine 28 = .ok (.getfield 79, 3) := by decide +kernel
theorem dX7_machine_31 : decode cX7_machine 31 = .ok (.istore_n 3, 1) := by decide +kernel
theorem dX7_machine_32 : decode cX7_machine 32 = .ok (.aload_n 0, 1) := by decide +kernel
theorem dX7_machine_33 : decode cX7_machine 33 = .ok (.iload_n 1, 1) := by decide +kernel
theorem dX7_machine_34 : decode cX7_machine 34 = .ok (.putfield 7, 3) := by decide +kernel
theorem dX7_machine_37 : decode cX7_machine 37 = .ok (.aload_n 0, 1) := by decide +kernel
theorem dX7_machine_38 : decode cX7_machine 38 = .ok (.iload_n 2, 1) := by decide +kernel
theorem dX7_machine_39 : decode cX7_machine 39 = .ok (.putfield 13, 3) := by decide +kernel
theorem dX7_machine_42 : decode cX7_machine 42 = .ok (.aload_n 0, 1) := by decide +kernel
theorem dX7_machine_43 : decode cX7_machine 43 = .ok (.iconst 0, 1) := by decide +kernel
theorem dX7_machine_44 : decode cX7_machine 44 = .ok (.putfield 79, 3) := by decide +kernel
theorem dX7_machine_47 : decode cX7_machine 47 = .ok (.aload_n 0, 1) := by decide +kernel
theorem dX7_machine_48 : decode cX7_machine 48 = .ok (.iconst 0, 1) := by decide +kernel
theorem dX7_machine_49 : decode cX7_machine 49 = .ok (.putfield 82, 3) := by decide +kernel
theorem dX7_machine_52 : decode cX7_machine 52 = .ok (.aload_n 0, 1) := by decide +kernel
theorem dX7_machine_53 : decode cX7_machine 53 = .ok (.iconst 0, 1) := by decide +kernel
theorem dX7_machine_54 : decode cX7_machine 54 = .ok (.putfield 85, 3) := by decide +kernel
theorem dX7_machine_57 : decode cX7_machine 57 = .ok (.aload_n 0, 1) := by decide +kernel
theorem dX7_machine_58 : decode cX7_machine 58 = .ok (.iconst 0, 1) := by decide +kernel
theorem dX7_machine_59 : decode cX7_machine 59 = .ok (.putfield 88, 3) := by decide +kernel
theorem dX7_machine_62 : decode cX7_machine 62 = .ok (.iload_n 3, 1) := by decide +kernel
theorem dX7_machine_63 : decode cX7_machine 63 = .ok (.ireturn, 1) := by decide +kernel
theorem dX7_rule_0 : decode cX7_rule 0 = .ok (.aload_n 0, 1) := by decide +kernel
theorem dX7_rule_1 : decode cX7_rule 1 = .ok (.iload_n 1, 1) := by decide +kernel
theorem dX7_rule_2 : decode cX7_rule 2 = .ok (.invokevirtual 91, 3) := by decide +kernel
theorem dX7_rule_5 : decode cX7_rule 5 = .ok (.ifCond .eq 59, 3) := by decide +kernel
theorem dX7_rule_8 : decode cX7_rule 8 = .ok (.aload_n 0, 1) := by decide +kernel
theorem dX7_rule_9 : decode cX7_rule 9 = .ok (.iload_n 2, 1) := by decide +kernel
theorem dX7_rule_10 : decode cX7_rule 10 = .ok (.invokevirtual 95, 3) := by decide +kernel
theorem dX7_rule_13 : decode cX7_rule 13 = .ok (.ifCond .eq 51, 3) := by decide +kernel
theorem dX7_rule_16 : decode cX7_rule 16 = .ok (.aload_n 0, 1) := by decide +kernel
theorem dX7_rule_17 : decode cX7_rule 17 = .ok (.iload_n 3, 1) := by decide +kernel
theorem dX7_rule_18 : decode cX7_rule 18 = .ok (.invokevirtual 91, 3) := by decide +kernel
theorem dX7_rule_21 : decode cX7_rule 21 = .ok (.ifCond .eq 43, 3) := by decide +kernel
theorem dX7_rule_24 : decode cX7_rule 24 = .ok (.iload 4, 2) := by decide +kernel
theorem dX7_rule_26 : decode cX7_rule 26 = .ok (.iconst (-1), 1) := by decide +kernel
theorem dX7_rule_27 : decode cX7_rule 27 = .ok (.if_icmp .eq 12, 3) := by decide +kernel
theorem dX7_rule_30 : decode cX7_rule 30 = .ok (.aload_n 0, 1) := by decide +kernel
theorem dX7_rule_31 : decode cX7_rule 31 = .ok (.iload 4, 2) := by decide +kernel
theorem dX7_rule_33 : decode cX7_rule 33 = .ok (.invokevirtual 95, 3) := by decide +kernel
theorem dX7_rule_36 : decode cX7_rule 36 = .ok (.ifCond .eq 28, 3) := by decide +kernel
theorem dX7_rule_39 : decode cX7_rule 39 = .ok (.iload 5, 2) := by decide +kernel
theorem dX7_rule_41 : decode cX7_rule 41 = .ok (.iconst (-1), 1) := by decide +kernel
theorem dX7_rule_42 : decode cX7_rule 42 = .ok (.if_icmp .eq 18, 3) := by decide +kernel
theorem dX7_rule_45 : decode cX7_rule 45 = .ok (.iload 4, 2) := by decide +kernel
theorem dX7_rule_47 : decode cX7_rule 47 = .ok (.iconst (-1), 1) := by decide +kernel
theorem dX7_rule_48 : decode cX7_rule 48 = .ok (.if_icmp .eq 16, 3) := by decide +kernel
theorem dX7_rule_51 : decode cX7_rule 51 = .ok (.aload_n 0, 1) := by decide +kernel
theorem dX7_rule_52 : decode cX7_rule 52 = .ok (.iload 5, 2) := by decide +kernel
theorem dX7_rule_54 : decode cX7_rule 54 = .ok (.invokevirtual 95, 3) := by decide +kernel
theorem dX7_rule_57 : decode cX7_rule 57 = .ok (.ifCond .eq 7, 3) := by decide +kernel
theorem dX7_rule_60 : decode cX7_rule 60 = .ok (.iconst 1, 1) := by decide +kernel
theorem dX7_rule_61 : decode cX7_rule 61 = .ok (.goto 4, 3) := by decide +kernel
theorem dX7_rule_64 : decode cX7_rule 64 = .ok (.iconst 0, 1) := by decide +kernel
theorem dX7_rule_65 : decode cX7_rule 65 = .ok (.istore 6, 2) := by decide +kernel
theorem dX7_rule_67 : decode cX7_rule 67 = .ok (.iload 6, 2) := by decide +kernel
theorem dX7_rule_69 : decode cX7_rule 69 = .ok (.ifCond .ne 6, 3) := by decide +kernel
theorem dX7_rule_72 : decode cX7_rule 72 = .ok (.bipush (-2), 2) := by decide +kernel
theorem dX7_rule_74 : decode cX7_rule 74 = .ok (.ireturn, 1) := by decide +kernel
theorem dX7_rule_75 : decode cX7_rule 75 = .ok (.aload_n 0, 1) := by decide +kernel
theorem dX7_rule_76 : decode cX7_rule 76 = .ok (.getfield 79, 3) := by decide +kernel
theorem dX7_rule_79 : decode cX7_rule 79 = .ok (.bipush 30, 2) := by decide +kernel
theorem dX7_rule_81 : decode cX7_rule 81 = .ok (.if_icmp .ne 6, 3) := by decide +kernel
theorem dX7_rule_84 : decode cX7_rule 84 = .ok (.bipush (-4), 2) := by decide +kernel
theorem dX7_rule_86 : decode cX7_rule 86 = .ok (.ireturn, 1) := by decide +kernel
theorem dX7_rule_87 : decode cX7_rule 87 = .ok (.aload_n 0, 1) := by decide +kernel
theorem dX7_rule_88 : decode cX7_rule 88 = .ok (.getfield 16, 3) := by decide +kernel
theorem dX7_rule_91 : decode cX7_rule 91 = .ok (.aload_n 0, 1) := by decide +kernel
theorem dX7_rule_92 : decode cX7_rule 92 = .ok (.getfield 79, 3) := by decide +kernel
theorem dX7_rule_95 : decode cX7_rule 95 = .ok (.iload_n 1, 1) := by decide +kernel
theorem dX7_rule_96 : decode cX7_rule 96 = .ok (.iastore, 1) := by decide +kernel
theorem dX7_rule_97 : decode cX7_rule 97 = .ok (.aload_n 0, 1) := by decide +kernel
theorem dX7_rule_98 : decode cX7_rule 98 = .ok (.getfield 20, 3) := by decide +kernel
theorem dX7_rule_101 : decode cX7_rule 101 = .ok (.aload_n 0, 1) := by decide +kernel
theorem dX7_rule_102 : decode cX7_rule 102 = .ok (.getfield 79, 3) := by decide +kernel
theorem dX7_rule_105 : decode cX7_rule 105 = .ok (.iload_n 2, 1) := by decide +kernel
theorem dX7_rule_106 : decode cX7_rule 106 = .ok (.iastore, 1) := by decide +kernel
theorem dX7_rule_107 : decode cX7_rule 107 = .ok (.aload_n 0, 1) := by decide +kernel
theorem dX7_rule_108 : decode cX7_rule 108 = .ok (.getfield 23, 3) := by decide +kernel
theorem dX7_rule_111 : decode cX7_rule 111 = .ok (.aload_n 0, 1) := by decide +kernel
theorem dX7_rule_112 : decode cX7_rule 112 = .ok (.getfield 79, 3) := by decide +kernel
theorem dX7_rule_115 : decode cX7_rule 115 = .ok (.iload_n 3, 1) := by decide +kernel
theorem dX7_rule_116 : decode cX7_rule 116 = .ok (.iastore, 1) := by decide +kernel
theorem dX7_rule_117 : decode cX7_rule 117 = .ok (.aload_n 0, 1) := by decide +kernel
theorem dX7_rule_118 : decode cX7_rule 118 = .ok (.getfield 26, 3) := by decide +kernel
theorem dX7_rule_121 : decode cX7_rule 121 = .ok (.aload_n 0, 1) := by decide +kernel
theorem dX7_rule_122 : decode cX7_rule 122 = .ok (.getfield 79, 3) := by decide +kernel
theorem dX7_rule_125 : decode cX7_rule 125 = .ok (.iload 4, 2) := by decide +kernel
theorem dX7_rule_127 : decode cX7_rule 127 = .ok (.iastore, 1) := by decide +kernel
theorem dX7_rule_128 : decode cX7_rule 128 = .ok (.aload_n 0, 1) := by decide +kernel
theorem dX7_rule_129 : decode cX7_rule 129 = .ok (.getfield 29, 3) := by decide +kernel
theorem dX7_rule_132 : decode cX7_rule 132 = .ok (.aload_n 0, 1) := by decide +kernel
theorem dX7_rule_133 : decode cX7_rule 133 = .ok (.getfield 79, 3) := by decide +kernel
theorem dX7_rule_136 : decode cX7_rule 136 = .ok (.iload 5, 2) := by decide +kernel
theorem dX7_rule_138 : decode cX7_rule 138 = .ok (.iastore, 1) := by decide +kernel
theorem dX7_rule_139 : decode cX7_rule 139 = .ok (.aload_n 0, 1) := by decide +kernel
theorem dX7_rule_140 : decode cX7_rule 140 = .ok (.dup, 1) := by decide +kernel
theorem dX7_rule_141 : decode cX7_rule 141 = .ok (.getfield 79, 3) := by decide +kernel
theorem dX7_rule_144 : decode cX7_rule 144 = .ok (.iconst 1, 1) := by decide +kernel
theorem dX7_rule_145 : decode cX7_rule 145 = .ok (.iadd, 1) := by decide +kernel
theorem dX7_rule_146 : decode cX7_rule 146 = .ok (.putfield 79, 3) := by decide +kernel
theorem dX7_rule_149 : decode cX7_rule 149 = .ok (.aload_n 0, 1) := by decide +kernel
theorem dX7_rule_150 : decode cX7_rule 150 = .ok (.getfield 79, 3) := by decide +kernel
theorem dX7_rule_153 : decode cX7_rule 153 = .ok (.iconst 1, 1) := by decide +kernel
theorem dX7_rule_154 : decode cX7_rule 154 = .ok (.isub, 1) := by decide +kernel
theorem dX7_rule_155 : decode cX7_rule 155 = .ok (.ireturn, 1) := by decide +kernel
theorem dX7_unrule_0 : decode cX7_unrule 0 = .ok (.aload_n 0, 1) := by decide +kernel
theorem dX7_unrule_1 : decode cX7_unrule 1 = .ok (.getfield 79, 3) := by decide +kernel
theorem dX7_unrule_4 : decode cX7_unrule 4 = .ok (.ifCond .ne 6, 3) := by decide +kernel
theorem dX7_unrule_7 : decode cX7_unrule 7 = .ok (.bipush (-3), 2) := by decide +kernel
theorem dX7_unrule_9 : decode cX7_unrule 9 = .ok (.ireturn, 1) := by decide +kernel
theorem dX7_unrule_10 : decode cX7_unrule 10 = .ok (.aload_n 0, 1) := by decide +kernel
theorem dX7_unrule_11 : decode cX7_unrule 11 = .ok (.dup, 1) := by decide +kernel
theorem dX7_unrule_12 : decode cX7_unrule 12 = .ok (.getfield 79, 3) := by decide +kernel
theorem dX7_unrule_15 : decode cX7_unrule 15 = .ok (.iconst 1, 1) := by decide +kernel
theorem dX7_unrule_16 : decode cX7_unrule 16 = .ok (.isub, 1) := by decide +kernel
theorem dX7_unrule_17 : decode cX7_unrule 17 = .ok (.putfield 79, 3) := by decide +kernel
theorem dX7_unrule_20 : decode cX7_unrule 20 = .ok (.aload_n 0, 1) := by decide +kernel
theorem dX7_unrule_21 : decode cX7_unrule 21 = .ok (.getfield 79, 3) := by decide +kernel
theorem dX7_unrule_24 : decode cX7_unrule 24 = .ok (.ireturn, 1) := by decide +kernel
theorem dX7_stand_0 : decode cX7_stand 0 = .ok (.aload_n 0, 1) := by decide +kernel
theorem dX7_stand_1 : decode cX7_stand 1 = .ok (.iload_n 1, 1) := by decide +kernel
theorem dX7_stand_2 : decode cX7_stand 2 = .ok (.invokevirtual 91, 3) := by decide +kernel
theorem dX7_stand_5 : decode cX7_stand 5 = .ok (.ifCond .ne 6, 3) := by decide +kernel
theorem dX7_stand_8 : decode cX7_stand 8 = .ok (.bipush (-2), 2) := by decide +kernel
theorem dX7_stand_10 : decode cX7_stand 10 = .ok (.ireturn, 1) := by decide +kernel
theorem dX7_stand_11 : decode cX7_stand 11 = .ok (.aload_n 0, 1) := by decide +kernel
theorem dX7_stand_12 : decode cX7_stand 12 = .ok (.getfield 85, 3) := by decide +kernel
theorem dX7_stand_15 : decode cX7_stand 15 = .ok (.istore_n 2, 1) := by decide +kernel
theorem dX7_stand_16 : decode cX7_stand 16 = .ok (.aload_n 0, 1) := by decide +kernel
theorem dX7_stand_17 : decode cX7_stand 17 = .ok (.iload_n 1, 1) := by decide +kernel
theorem dX7_stand_18 : decode cX7_stand 18 = .ok (.putfield 82, 3) := by decide +kernel
theorem dX7_stand_21 : decode cX7_stand 21 = .ok (.aload_n 0, 1) := by decide +kernel
theorem dX7_stand_22 : decode cX7_stand 22 = .ok (.iconst 0, 1) := by decide +kernel
theorem dX7_stand_23 : decode cX7_stand 23 = .ok (.putfield 85, 3) := by decide +kernel
theorem dX7_stand_26 : decode cX7_stand 26 = .ok (.iload_n 2, 1) := by decide +kernel
theorem dX7_stand_27 : decode cX7_stand 27 = .ok (.ireturn, 1) := by decide +kernel
theorem dX7_push_0 : decode cX7_push 0 = .ok (.aload_n 0, 1) := by decide +kernel
theorem dX7_push_1 : decode cX7_push 1 = .ok (.iload_n 1, 1) := by decide +kernel
theorem dX7_push_2 : decode cX7_push 2 = .ok (.invokevirtual 95, 3) := by decide +kernel
theorem dX7_push_5 : decode cX7_push 5 = .ok (.ifCond .ne 6, 3) := by decide +kernel
theorem dX7_push_8 : decode cX7_push 8 = .ok (.bipush (-2), 2) := by decide +kernel
theorem dX7_push_10 : decode cX7_push 10 = .ok (.ireturn, 1) := by decide +kernel
theorem dX7_push_11 : decode cX7_push 11 = .ok (.aload_n 0, 1) := by decide +kernel
theorem dX7_push_12 : decode cX7_push 12 = .ok (.getfield 85, 3) := by decide +kernel
theorem dX7_push_15 : decode cX7_push 15 = .ok (.bipush 60, 2) := by decide +kernel
theorem dX7_push_17 : decode cX7_push 17 = .ok (.if_icmp .ne 6, 3) := by decide +kernel
theorem dX7_push_20 : decode cX7_push 20 = .ok (.bipush (-4), 2) := by decide +kernel
theorem dX7_push_22 : decode cX7_push 22 = .ok (.ireturn, 1) := by decide +kernel
theorem dX7_push_23 : decode cX7_push 23 = .ok (.aload_n 0, 1) := by decide +kernel
theorem dX7_push_24 : decode cX7_push 24 = .ok (.getfield 32, 3) := by decide +kernel
theorem dX7_push_27 : decode cX7_push 27 = .ok (.aload_n 0, 1) := by decide +kernel
theorem dX7_push_28 : decode cX7_push 28 = .ok (.getfield 85, 3) := by decide +kernel
theorem dX7_push_31 : decode cX7_push 31 = .ok (.iload_n 1, 1) := by decide +kernel
theorem dX7_push_32 : decode cX7_push 32 = .ok (.iastore, 1) := by decide +kernel
theorem dX7_push_33 : decode cX7_push 33 = .ok (.aload_n 0, 1) := by decide +kernel
theorem dX7_push_34 : decode cX7_push 34 = .ok (.dup, 1) := by decide +kernel
theorem dX7_push_35 : decode cX7_push 35 = .ok (.getfield 85, 3) := by decide +kernel
theorem dX7_push_38 : decode cX7_push 38 = .ok (.iconst 1, 1) := by decide +kernel
theorem dX7_push_39 : decode cX7_push 39 = .ok (.iadd, 1) := by decide +kernel
theorem dX7_push_40 : decode cX7_push 40 = .ok (.putfield 85, 3) := by decide +kernel
theorem dX7_push_43 : decode cX7_push 43 = .ok (.aload_n 0, 1) := by decide +kernel
theorem dX7_push_44 : decode cX7_push 44 = .ok (.getfield 85, 3) := by decide +kernel
theorem dX7_push_47 : decode cX7_push 47 = .ok (.ireturn, 1) := by decide +kernel
theorem dX7_at_0 : decode cX7_at 0 = .ok (.iload_n 1, 1) := by decide +kernel
theorem dX7_at_1 : decode cX7_at 1 = .ok (.iconst (-1), 1) := by decide +kernel
theorem dX7_at_2 : decode cX7_at 2 = .ok (.if_icmp .ne 10, 3) := by decide +kernel
theorem dX7_at_5 : decode cX7_at 5 = .ok (.aload_n 0, 1) := by decide +kernel
theorem dX7_at_6 : decode cX7_at 6 = .ok (.getfield 82, 3) := by decide +kernel
theorem dX7_at_9 : decode cX7_at 9 = .ok (.goto 37, 3) := by decide +kernel
theorem dX7_at_12 : decode cX7_at 12 = .ok (.iload_n 1, 1) := by decide +kernel
theorem dX7_at_13 : decode cX7_at 13 = .ok (.i2l, 1) := by decide +kernel
theorem dX7_at_14 : decode cX7_at 14 = .ok (.lconst 0, 1) := by decide +kernel
theorem dX7_at_15 : decode cX7_at 15 = .ok (.aload_n 0, 1) := by decide +kernel
theorem dX7_at_16 : decode cX7_at 16 = .ok (.getfield 85, 3) := by decide +kernel
theorem dX7_at_19 : decode cX7_at 19 = .ok (.iconst 1, 1) := by decide +kernel
theorem dX7_at_20 : decode cX7_at 20 = .ok (.isub, 1) := by decide +kernel
theorem dX7_at_21 : decode cX7_at 21 = .ok (.i2l, 1) := by decide +kernel
theorem dX7_at_22 : decode cX7_at 22 = .ok (.invokestatic 73, 3) := by decide +kernel
theorem dX7_at_25 : decode cX7_at 25 = .ok (.ifCond .eq 19, 3) := by decide +kernel
theorem dX7_at_28 : decode cX7_at 28 = .ok (.aload_n 0, 1) := by decide +kernel
theorem dX7_at_29 : decode cX7_at 29 = .ok (.getfield 32, 3) := by decide +kernel
theorem dX7_at_32 : decode cX7_at 32 = .ok (.aload_n 0, 1) := by decide +kernel
theorem dX7_at_33 : decode cX7_at 33 = .ok (.getfield 85, 3) := by decide +kernel
theorem dX7_at_36 : decode cX7_at 36 = .ok (.iconst 1, 1) := by decide +kernel
theorem dX7_at_37 : decode cX7_at 37 = .ok (.isub, 1) := by decide +kernel
theorem dX7_at_38 : decode cX7_at 38 = .ok (.iload_n 1, 1) := by decide +kernel
theorem dX7_at_39 : decode cX7_at 39 = .ok (.isub, 1) := by decide +kernel
theorem dX7_at_40 : decode cX7_at 40 = .ok (.iaload, 1) := by decide +kernel
theorem dX7_at_41 : decode cX7_at 41 = .ok (.goto 5, 3) := by decide +kernel
theorem dX7_at_44 : decode cX7_at 44 = .ok (.bipush (-2), 2) := by decide +kernel
theorem dX7_at_46 : decode cX7_at 46 = .ok (.ireturn, 1) := by decide +kernel
theorem dX7_goes_0 : decode cX7_goes 0 = .ok (.aload_n 0, 1) := by decide +kernel
theorem dX7_goes_1 : decode cX7_goes 1 = .ok (.getfield 85, 3) := by decide +kernel
theorem dX7_goes_4 : decode cX7_goes 4 = .ok (.ifCond .le 40, 3) := by decide +kernel
theorem dX7_goes_7 : decode cX7_goes 7 = .ok (.aload_n 0, 1) := by decide +kernel
theorem dX7_goes_8 : decode cX7_goes 8 = .ok (.getfield 16, 3) := by decide +kernel
theorem dX7_goes_11 : decode cX7_goes 11 = .ok (.iload_n 1, 1) := by decide +kernel
theorem dX7_goes_12 : decode cX7_goes 12 = .ok (.iaload, 1) := by decide +kernel
theorem dX7_goes_13 : decode cX7_goes 13 = .ok (.aload_n 0, 1) := by decide +kernel
theorem dX7_goes_14 : decode cX7_goes 14 = .ok (.getfield 82, 3) := by decide +kernel
theorem dX7_goes_17 : decode cX7_goes 17 = .ok (.if_icmp .ne 27, 3) := by decide +kernel
theorem dX7_goes_20 : decode cX7_goes 20 = .ok (.aload_n 0, 1) := by decide +kernel
theorem dX7_goes_21 : decode cX7_goes 21 = .ok (.getfield 20, 3) := by decide +kernel
theorem dX7_goes_24 : decode cX7_goes 24 = .ok (.iload_n 1, 1) := by decide +kernel
theorem dX7_goes_25 : decode cX7_goes 25 = .ok (.iaload, 1) := by decide +kernel
theorem dX7_goes_26 : decode cX7_goes 26 = .ok (.aload_n 0, 1) := by decide +kernel
theorem dX7_goes_27 : decode cX7_goes 27 = .ok (.getfield 32, 3) := by decide +kernel
theorem dX7_goes_30 : decode cX7_goes 30 = .ok (.aload_n 0, 1) := by decide +kernel
theorem dX7_goes_31 : decode cX7_goes 31 = .ok (.getfield 85, 3) := by decide +kernel
theorem dX7_goes_34 : decode cX7_goes 34 = .ok (.iconst 1, 1) := by decide +kernel
theorem dX7_goes_35 : decode cX7_goes 35 = .ok (.isub, 1) := by decide +kernel
theorem dX7_goes_36 : decode cX7_goes 36 = .ok (.iaload, 1) := by decide +kernel
theorem dX7_goes_37 : decode cX7_goes 37 = .ok (.if_icmp .ne 7, 3) := by decide +kernel
theorem dX7_goes_40 : decode cX7_goes 40 = .ok (.iconst 1, 1) := by decide +kernel
theorem dX7_goes_41 : decode cX7_goes 41 = .ok (.goto 4, 3) := by decide +kernel
theorem dX7_goes_44 : decode cX7_goes 44 = .ok (.iconst 0, 1) := by decide +kernel
theorem dX7_goes_45 : decode cX7_goes 45 = .ok (.ireturn, 1) := by decide +kernel
theorem dX7_puts_0 : decode cX7_puts 0 = .ok (.aload_n 0, 1) := by decide +kernel
theorem dX7_puts_1 : decode cX7_puts 1 = .ok (.getfield 26, 3) := by decide +kernel
theorem dX7_puts_4 : decode cX7_puts 4 = .ok (.iload_n 1, 1) := by decide +kernel
theorem dX7_puts_5 : decode cX7_puts 5 = .ok (.iaload, 1) := by decide +kernel
theorem dX7_puts_6 : decode cX7_puts 6 = .ok (.iconst (-1), 1) := by decide +kernel
theorem dX7_puts_7 : decode cX7_puts 7 = .ok (.if_icmp .ne 7, 3) := by decide +kernel
theorem dX7_puts_10 : decode cX7_puts 10 = .ok (.iconst 0, 1) := by decide +kernel
theorem dX7_puts_11 : decode cX7_puts 11 = .ok (.goto 18, 3) := by decide +kernel
theorem dX7_puts_14 : decode cX7_puts 14 = .ok (.aload_n 0, 1) := by decide +kernel
theorem dX7_puts_15 : decode cX7_puts 15 = .ok (.getfield 29, 3) := by decide +kernel
theorem dX7_puts_18 : decode cX7_puts 18 = .ok (.iload_n 1, 1) := by decide +kernel
theorem dX7_puts_19 : decode cX7_puts 19 = .ok (.iaload, 1) := by decide +kernel
theorem dX7_puts_20 : decode cX7_puts 20 = .ok (.iconst (-1), 1) := by decide +kernel
theorem dX7_puts_21 : decode cX7_puts 21 = .ok (.if_icmp .ne 7, 3) := by decide +kernel
theorem dX7_puts_24 : decode cX7_puts 24 = .ok (.iconst 1, 1) := by decide +kernel
theorem dX7_puts_25 : decode cX7_puts 25 = .ok (.goto 4, 3) := by decide +kernel
theorem dX7_puts_28 : decode cX7_puts 28 = .ok (.iconst 2, 1) := by decide +kernel
theorem dX7_puts_29 : decode cX7_puts 29 = .ok (.ireturn, 1) := by decide +kernel
theorem dX7_does_0 : decode cX7_does 0 = .ok (.aload_n 0, 1) := by decide +kernel
theorem dX7_does_1 : decode cX7_does 1 = .ok (.dup, 1) := by decide +kernel
theorem dX7_does_2 : decode cX7_does 2 = .ok (.getfield 85, 3) := by decide +kernel
theorem dX7_does_5 : decode cX7_does 5 = .ok (.iconst 1, 1) := by decide +kernel
theorem dX7_does_6 : decode cX7_does 6 = .ok (.isub, 1) := by decide +kernel
theorem dX7_does_7 : decode cX7_does 7 = .ok (.putfield 85, 3) := by decide +kernel
theorem dX7_does_10 : decode cX7_does 10 = .ok (.aload_n 0, 1) := by decide +kernel
theorem dX7_does_11 : decode cX7_does 11 = .ok (.iload_n 1, 1) := by decide +kernel
theorem dX7_does_12 : decode cX7_does 12 = .ok (.invokevirtual 98, 3) := by decide +kernel
theorem dX7_does_15 : decode cX7_does 15 = .ok (.iconst 2, 1) := by decide +kernel
theorem dX7_does_16 : decode cX7_does 16 = .ok (.if_icmp .ne 28, 3) := by decide +kernel
theorem dX7_does_19 : decode cX7_does 19 = .ok (.aload_n 0, 1) := by decide +kernel
theorem dX7_does_20 : decode cX7_does 20 = .ok (.getfield 32, 3) := by decide +kernel
theorem dX7_does_23 : decode cX7_does 23 = .ok (.aload_n 0, 1) := by decide +kernel
theorem dX7_does_24 : decode cX7_does 24 = .ok (.getfield 85, 3) := by decide +kernel
theorem dX7_does_27 : decode cX7_does 27 = .ok (.aload_n 0, 1) := by decide +kernel
theorem dX7_does_28 : decode cX7_does 28 = .ok (.getfield 29, 3) := by decide +kernel
theorem dX7_does_31 : decode cX7_does 31 = .ok (.iload_n 1, 1) := by decide +kernel
theorem dX7_does_32 : decode cX7_does 32 = .ok (.iaload, 1) := by decide +kernel
theorem dX7_does_33 : decode cX7_does 33 = .ok (.iastore, 1) := by decide +kernel
theorem dX7_does_34 : decode cX7_does 34 = .ok (.aload_n 0, 1) := by decide +kernel
theorem dX7_does_35 : decode cX7_does 35 = .ok (.dup, 1) := by decide +kernel
theorem dX7_does_36 : decode cX7_does 36 = .ok (.getfield 85, 3) := by decide +kernel
theorem dX7_does_39 : decode cX7_does 39 = .ok (.iconst 1, 1) := by decide +kernel
theorem dX7_does_40 : decode cX7_does 40 = .ok (.iadd, 1) := by decide +kernel
theorem dX7_does_41 : decode cX7_does 41 = .ok (.putfield 85, 3) := by decide +kernel
theorem dX7_does_44 : decode cX7_does 44 = .ok (.aload_n 0, 1) := by decide +kernel
theorem dX7_does_45 : decode cX7_does 45 = .ok (.iload_n 1, 1) := by decide +kernel
theorem dX7_does_46 : decode cX7_does 46 = .ok (.invokevirtual 98, 3) := by decide +kernel
theorem dX7_does_49 : decode cX7_does 49 = .ok (.ifCond .le 28, 3) := by decide +kernel
theorem dX7_does_52 : decode cX7_does 52 = .ok (.aload_n 0, 1) := by decide +kernel
theorem dX7_does_53 : decode cX7_does 53 = .ok (.getfield 32, 3) := by decide +kernel
theorem dX7_does_56 : decode cX7_does 56 = .ok (.aload_n 0, 1) := by decide +kernel
theorem dX7_does_57 : decode cX7_does 57 = .ok (.getfield 85, 3) := by decide +kernel
theorem dX7_does_60 : decode cX7_does 60 = .ok (.aload_n 0, 1) := by decide +kernel
theorem dX7_does_61 : decode cX7_does 61 = .ok (.getfield 26, 3) := by decide +kernel
theorem dX7_does_64 : decode cX7_does 64 = .ok (.iload_n 1, 1) := by decide +kernel
theorem dX7_does_65 : decode cX7_does 65 = .ok (.iaload, 1) := by decide +kernel
theorem dX7_does_66 : decode cX7_does 66 = .ok (.iastore, 1) := by decide +kernel
theorem dX7_does_67 : decode cX7_does 67 = .ok (.aload_n 0, 1) := by decide +kernel
theorem dX7_does_68 : decode cX7_does 68 = .ok (.dup, 1) := by decide +kernel
theorem dX7_does_69 : decode cX7_does 69 = .ok (.getfield 85, 3) := by decide +kernel
theorem dX7_does_72 : decode cX7_does 72 = .ok (.iconst 1, 1) := by decide +kernel
theorem dX7_does_73 : decode cX7_does 73 = .ok (.iadd, 1) := by decide +kernel
theorem dX7_does_74 : decode cX7_does 74 = .ok (.putfield 85, 3) := by decide +kernel
theorem dX7_does_77 : decode cX7_does 77 = .ok (.aload_n 0, 1) := by decide +kernel
theorem dX7_does_78 : decode cX7_does 78 = .ok (.aload_n 0, 1) := by decide +kernel
theorem dX7_does_79 : decode cX7_does 79 = .ok (.getfield 23, 3) := by decide +kernel
theorem dX7_does_82 : decode cX7_does 82 = .ok (.iload_n 1, 1) := by decide +kernel
theorem dX7_does_83 : decode cX7_does 83 = .ok (.iaload, 1) := by decide +kernel
theorem dX7_does_84 : decode cX7_does 84 = .ok (.putfield 82, 3) := by decide +kernel
theorem dX7_does_87 : decode cX7_does 87 = .ok (.return_, 1) := by decide +kernel
theorem dX7_go_0 : decode cX7_go 0 = .ok (.iload_n 1, 1) := by decide +kernel
theorem dX7_go_1 : decode cX7_go 1 = .ok (.i2l, 1) := by decide +kernel
theorem dX7_go_2 : decode cX7_go 2 = .ok (.lconst 0, 1) := by decide +kernel
theorem dX7_go_3 : decode cX7_go 3 = .ok (.aload_n 0, 1) := by decide +kernel
theorem dX7_go_4 : decode cX7_go 4 = .ok (.getfield 79, 3) := by decide +kernel
theorem dX7_go_7 : decode cX7_go 7 = .ok (.iconst 1, 1) := by decide +kernel
theorem dX7_go_8 : decode cX7_go 8 = .ok (.isub, 1) := by decide +kernel
theorem dX7_go_9 : decode cX7_go 9 = .ok (.i2l, 1) := by decide +kernel
theorem dX7_go_10 : decode cX7_go 10 = .ok (.invokestatic 73, 3) := by decide +kernel
theorem dX7_go_13 : decode cX7_go 13 = .ok (.ifCond .ne 6, 3) := by decide +kernel
theorem dX7_go_16 : decode cX7_go 16 = .ok (.bipush (-2), 2) := by decide +kernel
theorem dX7_go_18 : decode cX7_go 18 = .ok (.ireturn, 1) := by decide +kernel
theorem dX7_go_19 : decode cX7_go 19 = .ok (.aload_n 0, 1) := by decide +kernel
theorem dX7_go_20 : decode cX7_go 20 = .ok (.iload_n 1, 1) := by decide +kernel
theorem dX7_go_21 : decode cX7_go 21 = .ok (.invokevirtual 102, 3) := by decide +kernel
theorem dX7_go_24 : decode cX7_go 24 = .ok (.ifCond .ne 6, 3) := by decide +kernel
theorem dX7_go_27 : decode cX7_go 27 = .ok (.bipush (-3), 2) := by decide +kernel
theorem dX7_go_29 : decode cX7_go 29 = .ok (.ireturn, 1) := by decide +kernel
theorem dX7_go_30 : decode cX7_go 30 = .ok (.aload_n 0, 1) := by decide +kernel
theorem dX7_go_31 : decode cX7_go 31 = .ok (.getfield 85, 3) := by decide +kernel
theorem dX7_go_34 : decode cX7_go 34 = .ok (.iconst 1, 1) := by decide +kernel
theorem dX7_go_35 : decode cX7_go 35 = .ok (.isub, 1) := by decide +kernel
theorem dX7_go_36 : decode cX7_go 36 = .ok (.aload_n 0, 1) := by decide +kernel
theorem dX7_go_37 : decode cX7_go 37 = .ok (.iload_n 1, 1) := by decide +kernel
theorem dX7_go_38 : decode cX7_go 38 = .ok (.invokevirtual 98, 3) := by decide +kernel
theorem dX7_go_41 : decode cX7_go 41 = .ok (.iadd, 1) := by decide +kernel
theorem dX7_go_42 : decode cX7_go 42 = .ok (.bipush 60, 2) := by decide +kernel
theorem dX7_go_44 : decode cX7_go 44 = .ok (.if_icmp .le 6, 3) := by decide +kernel
theorem dX7_go_47 : decode cX7_go 47 = .ok (.bipush (-4), 2) := by decide +kernel
theorem dX7_go_49 : decode cX7_go 49 = .ok (.ireturn, 1) := by decide +kernel
theorem dX7_go_50 : decode cX7_go 50 = .ok (.aload_n 0, 1) := by decide +kernel
theorem dX7_go_51 : decode cX7_go 51 = .ok (.iload_n 1, 1) := by decide +kernel
theorem dX7_go_52 : decode cX7_go 52 = .ok (.invokevirtual 105, 3) := by decide +kernel
theorem dX7_go_55 : decode cX7_go 55 = .ok (.aload_n 0, 1) := by decide +kernel
theorem dX7_go_56 : decode cX7_go 56 = .ok (.getfield 85, 3) := by decide +kernel
theorem dX7_go_59 : decode cX7_go 59 = .ok (.ireturn, 1) := by decide +kernel
theorem dX7_isSet_0 : decode cX7_isSet 0 = .ok (.iload_n 1, 1) := by decide +kernel
theorem dX7_isSet_1 : decode cX7_isSet 1 = .ok (.i2l, 1) := by decide +kernel
theorem dX7_isSet_2 : decode cX7_isSet 2 = .ok (.lconst 0, 1) := by decide +kernel
theorem dX7_isSet_3 : decode cX7_isSet 3 = .ok (.aload_n 0, 1) := by decide +kernel
theorem dX7_isSet_4 : decode cX7_isSet 4 = .ok (.getfield 88, 3) := by decide +kernel
theorem dX7_isSet_7 : decode cX7_isSet 7 = .ok (.iconst 1, 1) := by decide +kernel
theorem dX7_isSet_8 : decode cX7_isSet 8 = .ok (.isub, 1) := by decide +kernel
theorem dX7_isSet_9 : decode cX7_isSet 9 = .ok (.i2l, 1) := by decide +kernel
theorem dX7_isSet_10 : decode cX7_isSet 10 = .ok (.invokestatic 73, 3) := by decide +kernel
theorem dX7_isSet_13 : decode cX7_isSet 13 = .ok (.ireturn, 1) := by decide +kernel
theorem dX7_set_0 : decode cX7_set 0 = .ok (.aload_n 0, 1) := by decide +kernel
theorem dX7_set_1 : decode cX7_set 1 = .ok (.getfield 88, 3) := by decide +kernel
theorem dX7_set_4 : decode cX7_set 4 = .ok (.bipush 6, 2) := by decide +kernel
theorem dX7_set_6 : decode cX7_set 6 = .ok (.if_icmp .ne 6, 3) := by decide +kernel
theorem dX7_set_9 : decode cX7_set 9 = .ok (.bipush (-4), 2) := by decide +kernel
theorem dX7_set_11 : decode cX7_set 11 = .ok (.ireturn, 1) := by decide +kernel
theorem dX7_set_12 : decode cX7_set 12 = .ok (.aload_n 0, 1) := by decide +kernel
theorem dX7_set_13 : decode cX7_set 13 = .ok (.getfield 35, 3) := by decide +kernel
theorem dX7_set_16 : decode cX7_set 16 = .ok (.aload_n 0, 1) := by decide +kernel
theorem dX7_set_17 : decode cX7_set 17 = .ok (.getfield 88, 3) := by decide +kernel
theorem dX7_set_20 : decode cX7_set 20 = .ok (.iconst 0, 1) := by decide +kernel
theorem dX7_set_21 : decode cX7_set 21 = .ok (.iastore, 1) := by decide +kernel
theorem dX7_set_22 : decode cX7_set 22 = .ok (.iconst 0, 1) := by decide +kernel
theorem dX7_set_23 : decode cX7_set 23 = .ok (.istore_n 1, 1) := by decide +kernel
theorem dX7_set_24 : decode cX7_set 24 = .ok (.iload_n 1, 1) := by decide +kernel
theorem dX7_set_25 : decode cX7_set 25 = .ok (.bipush 11, 2) := by decide +kernel
theorem dX7_set_27 : decode cX7_set 27 = .ok (.if_icmp .ge 24, 3) := by decide +kernel
theorem dX7_set_30 : decode cX7_set 30 = .ok (.aload_n 0, 1) := by decide +kernel
theorem dX7_set_31 : decode cX7_set 31 = .ok (.getfield 47, 3) := by decide +kernel
theorem dX7_set_34 : decode cX7_set 34 = .ok (.bipush 11, 2) := by decide +kernel
theorem dX7_set_36 : decode cX7_set 36 = .ok (.aload_n 0, 1) := by decide +kernel
theorem dX7_set_37 : decode cX7_set 37 = .ok (.getfield 88, 3) := by decide +kernel
theorem dX7_set_40 : decode cX7_set 40 = .ok (.imul, 1) := by decide +kernel
theorem dX7_set_41 : decode cX7_set 41 = .ok (.iload_n 1, 1) := by decide +kernel
theorem dX7_set_42 : decode cX7_set 42 = .ok (.iadd, 1) := by decide +kernel
theorem dX7_set_43 : decode cX7_set 43 = .ok (.iconst 0, 1) := by decide +kernel
theorem dX7_set_44 : decode cX7_set 44 = .ok (.bastore, 1) := by decide +kernel
theorem dX7_set_45 : decode cX7_set 45 = .ok (.iinc 1 1, 3) := by decide +kernel
theorem dX7_set_48 : decode cX7_set 48 = .ok (.goto (-24), 3) := by decide +kernel
theorem dX7_set_51 : decode cX7_set 51 = .ok (.aload_n 0, 1) := by decide +kernel
theorem dX7_set_52 : decode cX7_set 52 = .ok (.dup, 1) := by decide +kernel
theorem dX7_set_53 : decode cX7_set 53 = .ok (.getfield 88, 3) := by decide +kernel
theorem dX7_set_56 : decode cX7_set 56 = .ok (.iconst 1, 1) := by decide +kernel
theorem dX7_set_57 : decode cX7_set 57 = .ok (.iadd, 1) := by decide +kernel
theorem dX7_set_58 : decode cX7_set 58 = .ok (.putfield 88, 3) := by decide +kernel
theorem dX7_set_61 : decode cX7_set 61 = .ok (.aload_n 0, 1) := by decide +kernel
theorem dX7_set_62 : decode cX7_set 62 = .ok (.getfield 88, 3) := by decide +kernel
theorem dX7_set_65 : decode cX7_set 65 = .ok (.iconst 1, 1) := by decide +kernel
theorem dX7_set_66 : decode cX7_set 66 = .ok (.isub, 1) := by decide +kernel
theorem dX7_set_67 : decode cX7_set 67 = .ok (.ireturn, 1) := by decide +kernel
theorem dX7_isPlace_0 : decode cX7_isPlace 0 = .ok (.iload_n 1, 1) := by decide +kernel
theorem dX7_isPlace_1 : decode cX7_isPlace 1 = .ok (.ifCond .ne 11, 3) := by decide +kernel
theorem dX7_isPlace_4 : decode cX7_isPlace 4 = .ok (.aload_n 0, 1) := by decide +kernel
theorem dX7_isPlace_5 : decode cX7_isPlace 5 = .ok (.iload_n 2, 1) := by decide +kernel
theorem dX7_isPlace_6 : decode cX7_isPlace 6 = .ok (.invokevirtual 91, 3) := by decide +kernel
theorem dX7_isPlace_9 : decode cX7_isPlace 9 = .ok (.goto 25, 3) := by decide +kernel
theorem dX7_isPlace_12 : decode cX7_isPlace 12 = .ok (.iload_n 1, 1) := by decide +kernel
theorem dX7_isPlace_13 : decode cX7_isPlace 13 = .ok (.iconst 1, 1) := by decide +kernel
theorem dX7_isPlace_14 : decode cX7_isPlace 14 = .ok (.if_icmp .ne 19, 3) := by decide +kernel
theorem dX7_isPlace_17 : decode cX7_isPlace 17 = .ok (.iload_n 2, 1) := by decide +kernel
theorem dX7_isPlace_18 : decode cX7_isPlace 18 = .ok (.i2l, 1) := by decide +kernel
theorem dX7_isPlace_19 : decode cX7_isPlace 19 = .ok (.lconst 0, 1) := by decide +kernel
theorem dX7_isPlace_20 : decode cX7_isPlace 20 = .ok (.ldc2_w 77, 3) := by decide +kernel
theorem dX7_isPlace_23 : decode cX7_isPlace 23 = .ok (.invokestatic 73, 3) := by decide +kernel
theorem dX7_isPlace_26 : decode cX7_isPlace 26 = .ok (.ifCond .eq 7, 3) := by decide +kernel
theorem dX7_isPlace_29 : decode cX7_isPlace 29 = .ok (.iconst 1, 1) := by decide +kernel
theorem dX7_isPlace_30 : decode cX7_isPlace 30 = .ok (.goto 4, 3) := by decide +kernel
theorem dX7_isPlace_33 : decode cX7_isPlace 33 = .ok (.iconst 0, 1) := by decide +kernel
theorem dX7_isPlace_34 : decode cX7_isPlace 34 = .ok (.ireturn, 1) := by decide +kernel
theorem dX7_link_0 : decode cX7_link 0 = .ok (.aload_n 0, 1) := by decide +kernel
theorem dX7_link_1 : decode cX7_link 1 = .ok (.iload_n 1, 1) := by decide +kernel
theorem dX7_link_2 : decode cX7_link 2 = .ok (.invokevirtual 109, 3) := by decide +kernel
theorem dX7_link_5 : decode cX7_link 5 = .ok (.ifCond .eq 34, 3) := by decide +kernel
theorem dX7_link_8 : decode cX7_link 8 = .ok (.aload_n 0, 1) := by decide +kernel
theorem dX7_link_9 : decode cX7_link 9 = .ok (.iload_n 2, 1) := by decide +kernel
theorem dX7_link_10 : decode cX7_link 10 = .ok (.iload_n 3, 1) := by decide +kernel
theorem dX7_link_11 : decode cX7_link 11 = .ok (.invokevirtual 112, 3) := by decide +kernel
theorem dX7_link_14 : decode cX7_link 14 = .ok (.ifCond .eq 25, 3) := by decide +kernel
theorem dX7_link_17 : decode cX7_link 17 = .ok (.aload_n 0, 1) := by decide +kernel
theorem dX7_link_18 : decode cX7_link 18 = .ok (.iload 4, 2) := by decide +kernel
theorem dX7_link_20 : decode cX7_link 20 = .ok (.invokevirtual 95, 3) := by decide +kernel
theorem dX7_link_23 : decode cX7_link 23 = .ok (.ifCond .eq 16, 3) := by decide +kernel
theorem dX7_link_26 : decode cX7_link 26 = .ok (.iload 5, 2) := by decide +kernel
theorem dX7_link_28 : decode cX7_link 28 = .ok (.i2l, 1) := by decide +kernel
theorem dX7_link_29 : decode cX7_link 29 = .ok (.lconst 0, 1) := by decide +kernel
theorem dX7_link_30 : decode cX7_link 30 = .ok (.ldc2_w 77, 3) := by decide +kernel
theorem dX7_link_33 : decode cX7_link 33 = .ok (.invokestatic 73, 3) := by decide +kernel
theorem dX7_link_36 : decode cX7_link 36 = .ok (.ifCond .ne 6, 3) := by decide +kernel
theorem dX7_link_39 : decode cX7_link 39 = .ok (.bipush (-2), 2) := by decide +kernel
theorem dX7_link_41 : decode cX7_link 41 = .ok (.ireturn, 1) := by decide +kernel
theorem dX7_link_42 : decode cX7_link 42 = .ok (.aload_n 0, 1) := by decide +kernel
theorem dX7_link_43 : decode cX7_link 43 = .ok (.getfield 35, 3) := by decide +kernel
theorem dX7_link_46 : decode cX7_link 46 = .ok (.iload_n 1, 1) := by decide +kernel
theorem dX7_link_47 : decode cX7_link 47 = .ok (.iaload, 1) := by decide +kernel
theorem dX7_link_48 : decode cX7_link 48 = .ok (.bipush 24, 2) := by decide +kernel
theorem dX7_link_50 : decode cX7_link 50 = .ok (.if_icmp .ne 6, 3) := by decide +kernel
theorem dX7_link_53 : decode cX7_link 53 = .ok (.bipush (-4), 2) := by decide +kernel
theorem dX7_link_55 : decode cX7_link 55 = .ok (.ireturn, 1) := by decide +kernel
theorem dX7_link_56 : decode cX7_link 56 = .ok (.bipush 24, 2) := by decide +kernel
theorem dX7_link_58 : decode cX7_link 58 = .ok (.iload_n 1, 1) := by decide +kernel
theorem dX7_link_59 : decode cX7_link 59 = .ok (.imul, 1) := by decide +kernel
theorem dX7_link_60 : decode cX7_link 60 = .ok (.aload_n 0, 1) := by decide +kernel
theorem dX7_link_61 : decode cX7_link 61 = .ok (.getfield 35, 3) := by decide +kernel
theorem dX7_link_64 : decode cX7_link 64 = .ok (.iload_n 1, 1) := by decide +kernel
theorem dX7_link_65 : decode cX7_link 65 = .ok (.iaload, 1) := by decide +kernel
theorem dX7_link_66 : decode cX7_link 66 = .ok (.iadd, 1) := by decide +kernel
theorem dX7_link_67 : decode cX7_link 67 = .ok (.istore 6, 2) := by decide +kernel
theorem dX7_link_69 : decode cX7_link 69 = .ok (.aload_n 0, 1) := by decide +kernel
theorem dX7_link_70 : decode cX7_link 70 = .ok (.getfield 38, 3) := by decide +kernel
theorem dX7_link_73 : decode cX7_link 73 = .ok (.iload 6, 2) := by decide +kernel
theorem dX7_link_75 : decode cX7_link 75 = .ok (.iload_n 2, 1) := by decide +kernel
theorem dX7_link_76 : decode cX7_link 76 = .ok (.ifCond .ne 7, 3) := by decide +kernel
theorem dX7_link_79 : decode cX7_link 79 = .ok (.iload_n 3, 1) := by decide +kernel
theorem dX7_link_80 : decode cX7_link 80 = .ok (.goto 6, 3) := by decide +kernel
theorem dX7_link_83 : decode cX7_link 83 = .ok (.iconst 5, 1) := by decide +kernel
theorem dX7_link_84 : decode cX7_link 84 = .ok (.iload_n 3, 1) := by decide +kernel
theorem dX7_link_85 : decode cX7_link 85 = .ok (.iadd, 1) := by decide +kernel
theorem dX7_link_86 : decode cX7_link 86 = .ok (.iastore, 1) := by decide +kernel
theorem dX7_link_87 : decode cX7_link 87 = .ok (.aload_n 0, 1) := by decide +kernel
theorem dX7_link_88 : decode cX7_link 88 = .ok (.getfield 41, 3) := by decide +kernel
theorem dX7_link_91 : decode cX7_link 91 = .ok (.iload 6, 2) := by decide +kernel
theorem dX7_link_93 : decode cX7_link 93 = .ok (.iload 4, 2) := by decide +kernel
theorem dX7_link_95 : decode cX7_link 95 = .ok (.iastore, 1) := by decide +kernel
theorem dX7_link_96 : decode cX7_link 96 = .ok (.aload_n 0, 1) := by decide +kernel
theorem dX7_link_97 : decode cX7_link 97 = .ok (.getfield 44, 3) := by decide +kernel
theorem dX7_link_100 : decode cX7_link 100 = .ok (.iload 6, 2) := by decide +kernel
theorem dX7_link_102 : decode cX7_link 102 = .ok (.iconst 5, 1) := by decide +kernel
theorem dX7_link_103 : decode cX7_link 103 = .ok (.iload 5, 2) := by decide +kernel
theorem dX7_link_105 : decode cX7_link 105 = .ok (.iadd, 1) := by decide +kernel
theorem dX7_link_106 : decode cX7_link 106 = .ok (.iastore, 1) := by decide +kernel
theorem dX7_link_107 : decode cX7_link 107 = .ok (.aload_n 0, 1) := by decide +kernel
theorem dX7_link_108 : decode cX7_link 108 = .ok (.getfield 35, 3) := by decide +kernel
theorem dX7_link_111 : decode cX7_link 111 = .ok (.iload_n 1, 1) := by decide +kernel
theorem dX7_link_112 : decode cX7_link 112 = .ok (.dup2, 1) := by decide +kernel
theorem dX7_link_113 : decode cX7_link 113 = .ok (.iaload, 1) := by decide +kernel
theorem dX7_link_114 : decode cX7_link 114 = .ok (.iconst 1, 1) := by decide +kernel
theorem dX7_link_115 : decode cX7_link 115 = .ok (.iadd, 1) := by decide +kernel
theorem dX7_link_116 : decode cX7_link 116 = .ok (.iastore, 1) := by decide +kernel
theorem dX7_link_117 : decode cX7_link 117 = .ok (.aload_n 0, 1) := by decide +kernel
theorem dX7_link_118 : decode cX7_link 118 = .ok (.getfield 35, 3) := by decide +kernel
theorem dX7_link_121 : decode cX7_link 121 = .ok (.iload_n 1, 1) := by decide +kernel
theorem dX7_link_122 : decode cX7_link 122 = .ok (.iaload, 1) := by decide +kernel
theorem dX7_link_123 : decode cX7_link 123 = .ok (.ireturn, 1) := by decide +kernel
theorem dX7_last_0 : decode cX7_last 0 = .ok (.aload_n 0, 1) := by decide +kernel
theorem dX7_last_1 : decode cX7_last 1 = .ok (.iload_n 1, 1) := by decide +kernel
theorem dX7_last_2 : decode cX7_last 2 = .ok (.invokevirtual 109, 3) := by decide +kernel
theorem dX7_last_5 : decode cX7_last 5 = .ok (.ifCond .eq 12, 3) := by decide +kernel
theorem dX7_last_8 : decode cX7_last 8 = .ok (.aload_n 0, 1) := by decide +kernel
theorem dX7_last_9 : decode cX7_last 9 = .ok (.iload_n 2, 1) := by decide +kernel
theorem dX7_last_10 : decode cX7_last 10 = .ok (.iload_n 3, 1) := by decide +kernel
theorem dX7_last_11 : decode cX7_last 11 = .ok (.invokevirtual 112, 3) := by decide +kernel
theorem dX7_last_14 : decode cX7_last 14 = .ok (.ifCond .ne 6, 3) := by decide +kernel
theorem dX7_last_17 : decode cX7_last 17 = .ok (.bipush (-2), 2) := by decide +kernel
theorem dX7_last_19 : decode cX7_last 19 = .ok (.ireturn, 1) := by decide +kernel
theorem dX7_last_20 : decode cX7_last 20 = .ok (.bipush 11, 2) := by decide +kernel
theorem dX7_last_22 : decode cX7_last 22 = .ok (.iload_n 1, 1) := by decide +kernel
theorem dX7_last_23 : decode cX7_last 23 = .ok (.imul, 1) := by decide +kernel
theorem dX7_last_24 : decode cX7_last 24 = .ok (.iload_n 2, 1) := by decide +kernel
theorem dX7_last_25 : decode cX7_last 25 = .ok (.ifCond .ne 7, 3) := by decide +kernel
theorem dX7_last_28 : decode cX7_last 28 = .ok (.iload_n 3, 1) := by decide +kernel
theorem dX7_last_29 : decode cX7_last 29 = .ok (.goto 6, 3) := by decide +kernel
theorem dX7_last_32 : decode cX7_last 32 = .ok (.iconst 5, 1) := by decide +kernel
theorem dX7_last_33 : decode cX7_last 33 = .ok (.iload_n 3, 1) := by decide +kernel
theorem dX7_last_34 : decode cX7_last 34 = .ok (.iadd, 1) := by decide +kernel
theorem dX7_last_35 : decode cX7_last 35 = .ok (.iadd, 1) := by decide +kernel
theorem dX7_last_36 : decode cX7_last 36 = .ok (.istore 5, 2) := by decide +kernel
theorem dX7_last_38 : decode cX7_last 38 = .ok (.aload_n 0, 1) := by decide +kernel
theorem dX7_last_39 : decode cX7_last 39 = .ok (.getfield 47, 3) := by decide +kernel
theorem dX7_last_42 : decode cX7_last 42 = .ok (.iload 5, 2) := by decide +kernel
theorem dX7_last_44 : decode cX7_last 44 = .ok (.baload, 1) := by decide +kernel
theorem dX7_last_45 : decode cX7_last 45 = .ok (.ifCond .eq 7, 3) := by decide +kernel
theorem dX7_last_48 : decode cX7_last 48 = .ok (.iconst 1, 1) := by decide +kernel
theorem dX7_last_49 : decode cX7_last 49 = .ok (.goto 4, 3) := by decide +kernel
theorem dX7_last_52 : decode cX7_last 52 = .ok (.iconst 0, 1) := by decide +kernel
theorem dX7_last_53 : decode cX7_last 53 = .ok (.istore 6, 2) := by decide +kernel
theorem dX7_last_55 : decode cX7_last 55 = .ok (.aload_n 0, 1) := by decide +kernel
theorem dX7_last_56 : decode cX7_last 56 = .ok (.getfield 47, 3) := by decide +kernel
theorem dX7_last_59 : decode cX7_last 59 = .ok (.iload 5, 2) := by decide +kernel
theorem dX7_last_61 : decode cX7_last 61 = .ok (.iload 4, 2) := by decide +kernel
theorem dX7_last_63 : decode cX7_last 63 = .ok (.bastore, 1) := by decide +kernel
theorem dX7_last_64 : decode cX7_last 64 = .ok (.iload 6, 2) := by decide +kernel
theorem dX7_last_66 : decode cX7_last 66 = .ok (.ireturn, 1) := by decide +kernel
theorem dX7_unset_0 : decode cX7_unset 0 = .ok (.aload_n 0, 1) := by decide +kernel
theorem dX7_unset_1 : decode cX7_unset 1 = .ok (.getfield 88, 3) := by decide +kernel
theorem dX7_unset_4 : decode cX7_unset 4 = .ok (.ifCond .ne 6, 3) := by decide +kernel
theorem dX7_unset_7 : decode cX7_unset 7 = .ok (.bipush (-3), 2) := by decide +kernel
theorem dX7_unset_9 : decode cX7_unset 9 = .ok (.ireturn, 1) := by decide +kernel
theorem dX7_unset_10 : decode cX7_unset 10 = .ok (.aload_n 0, 1) := by decide +kernel
theorem dX7_unset_11 : decode cX7_unset 11 = .ok (.dup, 1) := by decide +kernel
theorem dX7_unset_12 : decode cX7_unset 12 = .ok (.getfield 88, 3) := by decide +kernel
theorem dX7_unset_15 : decode cX7_unset 15 = .ok (.iconst 1, 1) := by decide +kernel
theorem dX7_unset_16 : decode cX7_unset 16 = .ok (.isub, 1) := by decide +kernel
theorem dX7_unset_17 : decode cX7_unset 17 = .ok (.putfield 88, 3) := by decide +kernel
theorem dX7_unset_20 : decode cX7_unset 20 = .ok (.aload_n 0, 1) := by decide +kernel
theorem dX7_unset_21 : decode cX7_unset 21 = .ok (.getfield 88, 3) := by decide +kernel
theorem dX7_unset_24 : decode cX7_unset 24 = .ok (.ireturn, 1) := by decide +kernel
theorem dX7_isLinked_0 : decode cX7_isLinked 0 = .ok (.iconst 0, 1) := by decide +kernel
theorem dX7_isLinked_1 : decode cX7_isLinked 1 = .ok (.istore 5, 2) := by decide +kernel
theorem dX7_isLinked_3 : decode cX7_isLinked 3 = .ok (.bipush 24, 2) := by decide +kernel
theorem dX7_isLinked_5 : decode cX7_isLinked 5 = .ok (.iload_n 1, 1) := by decide +kernel
theorem dX7_isLinked_6 : decode cX7_isLinked 6 = .ok (.imul, 1) := by decide +kernel
theorem dX7_isLinked_7 : decode cX7_isLinked 7 = .ok (.istore 6, 2) := by decide +kernel
theorem dX7_isLinked_9 : decode cX7_isLinked 9 = .ok (.iload 6, 2) := by decide +kernel
theorem dX7_isLinked_11 : decode cX7_isLinked 11 = .ok (.bipush 24, 2) := by decide +kernel
theorem dX7_isLinked_13 : decode cX7_isLinked 13 = .ok (.iload_n 1, 1) := by decide +kernel
theorem dX7_isLinked_14 : decode cX7_isLinked 14 = .ok (.imul, 1) := by decide +kernel
theorem dX7_isLinked_15 : decode cX7_isLinked 15 = .ok (.aload_n 0, 1) := by decide +kernel
theorem dX7_isLinked_16 : decode cX7_isLinked 16 = .ok (.getfield 35, 3) := by decide +kernel
theorem dX7_isLinked_19 : decode cX7_isLinked 19 = .ok (.iload_n 1, 1) := by decide +kernel
theorem dX7_isLinked_20 : decode cX7_isLinked 20 = .ok (.iaload, 1) := by decide +kernel
theorem dX7_isLinked_21 : decode cX7_isLinked 21 = .ok (.iadd, 1) := by decide +kernel
theorem dX7_isLinked_22 : decode cX7_isLinked 22 = .ok (.if_icmp .ge 55, 3) := by decide +kernel
theorem dX7_isLinked_25 : decode cX7_isLinked 25 = .ok (.iload 5, 2) := by decide +kernel
theorem dX7_isLinked_27 : decode cX7_isLinked 27 = .ok (.ifCond .ne 37, 3) := by decide +kernel
theorem dX7_isLinked_30 : decode cX7_isLinked 30 = .ok (.aload_n 0, 1) := by decide +kernel
theorem dX7_isLinked_31 : decode cX7_isLinked 31 = .ok (.getfield 38, 3) := by decide +kernel
theorem dX7_isLinked_34 : decode cX7_isLinked 34 = .ok (.iload 6, 2) := by decide +kernel
theorem dX7_isLinked_36 : decode cX7_isLinked 36 = .ok (.iaload, 1) := by decide +kernel
theorem dX7_isLinked_37 : decode cX7_isLinked 37 = .ok (.iload_n 2, 1) := by decide +kernel
theorem dX7_isLinked_38 : decode cX7_isLinked 38 = .ok (.if_icmp .ne 30, 3) := by decide +kernel
theorem dX7_isLinked_41 : decode cX7_isLinked 41 = .ok (.aload_n 0, 1) := by decide +kernel
theorem dX7_isLinked_42 : decode cX7_isLinked 42 = .ok (.getfield 41, 3) := by decide +kernel
theorem dX7_isLinked_45 : decode cX7_isLinked 45 = .ok (.iload 6, 2) := by decide +kernel
theorem dX7_isLinked_47 : decode cX7_isLinked 47 = .ok (.iaload, 1) := by decide +kernel
theorem dX7_isLinked_48 : decode cX7_isLinked 48 = .ok (.iload_n 3, 1) := by decide +kernel
theorem dX7_isLinked_49 : decode cX7_isLinked 49 = .ok (.if_icmp .ne 19, 3) := by decide +kernel
theorem dX7_isLinked_52 : decode cX7_isLinked 52 = .ok (.aload_n 0, 1) := by decide +kernel
theorem dX7_isLinked_53 : decode cX7_isLinked 53 = .ok (.getfield 44, 3) := by decide +kernel
theorem dX7_isLinked_56 : decode cX7_isLinked 56 = .ok (.iload 6, 2) := by decide +kernel
theorem dX7_isLinked_58 : decode cX7_isLinked 58 = .ok (.iaload, 1) := by decide +kernel
theorem dX7_isLinked_59 : decode cX7_isLinked 59 = .ok (.iload 4, 2) := by decide +kernel
theorem dX7_isLinked_61 : decode cX7_isLinked 61 = .ok (.if_icmp .ne 7, 3) := by decide +kernel
theorem dX7_isLinked_64 : decode cX7_isLinked 64 = .ok (.iconst 1, 1) := by decide +kernel
theorem dX7_isLinked_65 : decode cX7_isLinked 65 = .ok (.goto 4, 3) := by decide +kernel
theorem dX7_isLinked_68 : decode cX7_isLinked 68 = .ok (.iconst 0, 1) := by decide +kernel
theorem dX7_isLinked_69 : decode cX7_isLinked 69 = .ok (.istore 5, 2) := by decide +kernel
theorem dX7_isLinked_71 : decode cX7_isLinked 71 = .ok (.iinc 6 1, 3) := by decide +kernel
theorem dX7_isLinked_74 : decode cX7_isLinked 74 = .ok (.goto (-65), 3) := by decide +kernel
theorem dX7_isLinked_77 : decode cX7_isLinked 77 = .ok (.iload 5, 2) := by decide +kernel
theorem dX7_isLinked_79 : decode cX7_isLinked 79 = .ok (.ireturn, 1) := by decide +kernel
theorem dX7_holds_0 : decode cX7_holds 0 = .ok (.iconst 1, 1) := by decide +kernel
theorem dX7_holds_1 : decode cX7_holds 1 = .ok (.aload_n 0, 1) := by decide +kernel
theorem dX7_holds_2 : decode cX7_holds 2 = .ok (.getfield 82, 3) := by decide +kernel
theorem dX7_holds_5 : decode cX7_holds 5 = .ok (.ishl, 1) := by decide +kernel
theorem dX7_holds_6 : decode cX7_holds 6 = .ok (.istore_n 2, 1) := by decide +kernel
theorem dX7_holds_7 : decode cX7_holds 7 = .ok (.aload_n 0, 1) := by decide +kernel
theorem dX7_holds_8 : decode cX7_holds 8 = .ok (.getfield 85, 3) := by decide +kernel
theorem dX7_holds_11 : decode cX7_holds 11 = .ok (.iconst 1, 1) := by decide +kernel
theorem dX7_holds_12 : decode cX7_holds 12 = .ok (.isub, 1) := by decide +kernel
theorem dX7_holds_13 : decode cX7_holds 13 = .ok (.istore_n 3, 1) := by decide +kernel
theorem dX7_holds_14 : decode cX7_holds 14 = .ok (.iload_n 3, 1) := by decide +kernel
theorem dX7_holds_15 : decode cX7_holds 15 = .ok (.ifCond .lt 88, 3) := by decide +kernel
theorem dX7_holds_18 : decode cX7_holds 18 = .ok (.iconst 0, 1) := by decide +kernel
theorem dX7_holds_19 : decode cX7_holds 19 = .ok (.istore 4, 2) := by decide +kernel
theorem dX7_holds_21 : decode cX7_holds 21 = .ok (.iconst 0, 1) := by decide +kernel
theorem dX7_holds_22 : decode cX7_holds 22 = .ok (.istore 5, 2) := by decide +kernel
theorem dX7_holds_24 : decode cX7_holds 24 = .ok (.iload 5, 2) := by decide +kernel
theorem dX7_holds_26 : decode cX7_holds 26 = .ok (.bipush 11, 2) := by decide +kernel
theorem dX7_holds_28 : decode cX7_holds 28 = .ok (.if_icmp .ge 66, 3) := by decide +kernel
theorem dX7_holds_31 : decode cX7_holds 31 = .ok (.iconst 5, 1) := by decide +kernel
theorem dX7_holds_32 : decode cX7_holds 32 = .ok (.istore 6, 2) := by decide +kernel
theorem dX7_holds_34 : decode cX7_holds 34 = .ok (.iload 6, 2) := by decide +kernel
theorem dX7_holds_36 : decode cX7_holds 36 = .ok (.bipush 11, 2) := by decide +kernel
theorem dX7_holds_38 : decode cX7_holds 38 = .ok (.if_icmp .ge 50, 3) := by decide +kernel
theorem dX7_holds_41 : decode cX7_holds 41 = .ok (.iload_n 2, 1) := by decide +kernel
theorem dX7_holds_42 : decode cX7_holds 42 = .ok (.iload 5, 2) := by decide +kernel
theorem dX7_holds_44 : decode cX7_holds 44 = .ok (.ishr, 1) := by decide +kernel
theorem dX7_holds_45 : decode cX7_holds 45 = .ok (.iconst 1, 1) := by decide +kernel
theorem dX7_holds_46 : decode cX7_holds 46 = .ok (.iand, 1) := by decide +kernel
theorem dX7_holds_47 : decode cX7_holds 47 = .ok (.iconst 1, 1) := by decide +kernel
theorem dX7_holds_48 : decode cX7_holds 48 = .ok (.if_icmp .ne 40, 3) := by decide +kernel
theorem dX7_holds_51 : decode cX7_holds 51 = .ok (.iload 4, 2) := by decide +kernel
theorem dX7_holds_53 : decode cX7_holds 53 = .ok (.aload_n 0, 1) := by decide +kernel
theorem dX7_holds_54 : decode cX7_holds 54 = .ok (.iload_n 1, 1) := by decide +kernel
theorem dX7_holds_55 : decode cX7_holds 55 = .ok (.iload 5, 2) := by decide +kernel
theorem dX7_holds_57 : decode cX7_holds 57 = .ok (.aload_n 0, 1) := by decide +kernel
theorem dX7_holds_58 : decode cX7_holds 58 = .ok (.getfield 32, 3) := by decide +kernel
theorem dX7_holds_61 : decode cX7_holds 61 = .ok (.iload_n 3, 1) := by decide +kernel
theorem dX7_holds_62 : decode cX7_holds 62 = .ok (.iaload, 1) := by decide +kernel
theorem dX7_holds_63 : decode cX7_holds 63 = .ok (.iload 6, 2) := by decide +kernel
theorem dX7_holds_65 : decode cX7_holds 65 = .ok (.invokevirtual 116, 3) := by decide +kernel
theorem dX7_holds_68 : decode cX7_holds 68 = .ok (.ifCond .eq 10, 3) := by decide +kernel
theorem dX7_holds_71 : decode cX7_holds 71 = .ok (.iconst 1, 1) := by decide +kernel
theorem dX7_holds_72 : decode cX7_holds 72 = .ok (.iload 6, 2) := by decide +kernel
theorem dX7_holds_74 : decode cX7_holds 74 = .ok (.ishl, 1) := by decide +kernel
theorem dX7_holds_75 : decode cX7_holds 75 = .ok (.goto 4, 3) := by decide +kernel
theorem dX7_holds_78 : decode cX7_holds 78 = .ok (.iconst 0, 1) := by decide +kernel
theorem dX7_holds_79 : decode cX7_holds 79 = .ok (.ior, 1) := by decide +kernel
theorem dX7_holds_80 : decode cX7_holds 80 = .ok (.istore 4, 2) := by decide +kernel
theorem dX7_holds_82 : decode cX7_holds 82 = .ok (.iinc 6 1, 3) := by decide +kernel
theorem dX7_holds_85 : decode cX7_holds 85 = .ok (.goto (-51), 3) := by decide +kernel
theorem dX7_holds_88 : decode cX7_holds 88 = .ok (.iinc 5 1, 3) := by decide +kernel
theorem dX7_holds_91 : decode cX7_holds 91 = .ok (.goto (-67), 3) := by decide +kernel
theorem dX7_holds_94 : decode cX7_holds 94 = .ok (.iload 4, 2) := by decide +kernel
theorem dX7_holds_96 : decode cX7_holds 96 = .ok (.istore_n 2, 1) := by decide +kernel
theorem dX7_holds_97 : decode cX7_holds 97 = .ok (.iinc 3 (-1), 3) := by decide +kernel
theorem dX7_holds_100 : decode cX7_holds 100 = .ok (.goto (-86), 3) := by decide +kernel
theorem dX7_holds_103 : decode cX7_holds 103 = .ok (.iconst 0, 1) := by decide +kernel
theorem dX7_holds_104 : decode cX7_holds 104 = .ok (.istore_n 3, 1) := by decide +kernel
theorem dX7_holds_105 : decode cX7_holds 105 = .ok (.iconst 0, 1) := by decide +kernel
theorem dX7_holds_106 : decode cX7_holds 106 = .ok (.istore 4, 2) := by decide +kernel
theorem dX7_holds_108 : decode cX7_holds 108 = .ok (.iload 4, 2) := by decide +kernel
theorem dX7_holds_110 : decode cX7_holds 110 = .ok (.bipush 11, 2) := by decide +kernel
theorem dX7_holds_112 : decode cX7_holds 112 = .ok (.if_icmp .ge 44, 3) := by decide +kernel
theorem dX7_holds_115 : decode cX7_holds 115 = .ok (.iload_n 3, 1) := by decide +kernel
theorem dX7_holds_116 : decode cX7_holds 116 = .ok (.ifCond .ne 28, 3) := by decide +kernel
theorem dX7_holds_119 : decode cX7_holds 119 = .ok (.iload_n 2, 1) := by decide +kernel
theorem dX7_holds_120 : decode cX7_holds 120 = .ok (.iload 4, 2) := by decide +kernel
theorem dX7_holds_122 : decode cX7_holds 122 = .ok (.ishr, 1) := by decide +kernel
theorem dX7_holds_123 : decode cX7_holds 123 = .ok (.iconst 1, 1) := by decide +kernel
theorem dX7_holds_124 : decode cX7_holds 124 = .ok (.iand, 1) := by decide +kernel
theorem dX7_holds_125 : decode cX7_holds 125 = .ok (.iconst 1, 1) := by decide +kernel
theorem dX7_holds_126 : decode cX7_holds 126 = .ok (.if_icmp .ne 22, 3) := by decide +kernel
theorem dX7_holds_129 : decode cX7_holds 129 = .ok (.aload_n 0, 1) := by decide +kernel
theorem dX7_holds_130 : decode cX7_holds 130 = .ok (.getfield 47, 3) := by decide +kernel
theorem dX7_holds_133 : decode cX7_holds 133 = .ok (.bipush 11, 2) := by decide +kernel
theorem dX7_holds_135 : decode cX7_holds 135 = .ok (.iload_n 1, 1) := by decide +kernel
theorem dX7_holds_136 : decode cX7_holds 136 = .ok (.imul, 1) := by decide +kernel
theorem dX7_holds_137 : decode cX7_holds 137 = .ok (.iload 4, 2) := by decide +kernel
theorem dX7_holds_139 : decode cX7_holds 139 = .ok (.iadd, 1) := by decide +kernel
theorem dX7_holds_140 : decode cX7_holds 140 = .ok (.baload, 1) := by decide +kernel
theorem dX7_holds_141 : decode cX7_holds 141 = .ok (.ifCond .eq 7, 3) := by decide +kernel
theorem dX7_holds_144 : decode cX7_holds 144 = .ok (.iconst 1, 1) := by decide +kernel
theorem dX7_holds_145 : decode cX7_holds 145 = .ok (.goto 4, 3) := by decide +kernel
theorem dX7_holds_148 : decode cX7_holds 148 = .ok (.iconst 0, 1) := by decide +kernel
theorem dX7_holds_149 : decode cX7_holds 149 = .ok (.istore_n 3, 1) := by decide +kernel
theorem dX7_holds_150 : decode cX7_holds 150 = .ok (.iinc 4 1, 3) := by decide +kernel
theorem dX7_holds_153 : decode cX7_holds 153 = .ok (.goto (-45), 3) := by decide +kernel
theorem dX7_holds_156 : decode cX7_holds 156 = .ok (.iload_n 3, 1) := by decide +kernel
theorem dX7_holds_157 : decode cX7_holds 157 = .ok (.ireturn, 1) := by decide +kernel
theorem dX7_in_0 : decode cX7_in 0 = .ok (.aload_n 0, 1) := by decide +kernel
theorem dX7_in_1 : decode cX7_in 1 = .ok (.iload_n 1, 1) := by decide +kernel
theorem dX7_in_2 : decode cX7_in 2 = .ok (.invokevirtual 109, 3) := by decide +kernel
theorem dX7_in_5 : decode cX7_in 5 = .ok (.ifCond .ne 8, 3) := by decide +kernel
theorem dX7_in_8 : decode cX7_in 8 = .ok (.bipush (-2), 2) := by decide +kernel
theorem dX7_in_10 : decode cX7_in 10 = .ok (.goto 16, 3) := by decide +kernel
theorem dX7_in_13 : decode cX7_in 13 = .ok (.aload_n 0, 1) := by decide +kernel
theorem dX7_in_14 : decode cX7_in 14 = .ok (.iload_n 1, 1) := by decide +kernel
theorem dX7_in_15 : decode cX7_in 15 = .ok (.invokevirtual 120, 3) := by decide +kernel
theorem dX7_in_18 : decode cX7_in 18 = .ok (.ifCond .eq 7, 3) := by decide +kernel
theorem dX7_in_21 : decode cX7_in 21 = .ok (.iconst 1, 1) := by decide +kernel
theorem dX7_in_22 : decode cX7_in 22 = .ok (.goto 4, 3) := by decide +kernel
theorem dX7_in_25 : decode cX7_in 25 = .ok (.iconst 0, 1) := by decide +kernel
theorem dX7_in_26 : decode cX7_in 26 = .ok (.ireturn, 1) := by decide +kernel
theorem dX7_costAt_0 : decode cX7_costAt 0 = .ok (.iconst 5, 1) := by decide +kernel
theorem dX7_costAt_1 : decode cX7_costAt 1 = .ok (.iload_n 0, 1) := by decide +kernel
theorem dX7_costAt_2 : decode cX7_costAt 2 = .ok (.imul, 1) := by decide +kernel
theorem dX7_costAt_3 : decode cX7_costAt 3 = .ok (.iload_n 1, 1) := by decide +kernel
theorem dX7_costAt_4 : decode cX7_costAt 4 = .ok (.iadd, 1) := by decide +kernel
theorem dX7_costAt_5 : decode cX7_costAt 5 = .ok (.bipush 11, 2) := by decide +kernel
theorem dX7_costAt_7 : decode cX7_costAt 7 = .ok (.imul, 1) := by decide +kernel
theorem dX7_costAt_8 : decode cX7_costAt 8 = .ok (.iload_n 2, 1) := by decide +kernel
theorem dX7_costAt_9 : decode cX7_costAt 9 = .ok (.iadd, 1) := by decide +kernel
theorem dX7_costAt_10 : decode cX7_costAt 10 = .ok (.ireturn, 1) := by decide +kernel
theorem dX7_plus_0 : decode cX7_plus 0 = .ok (.lload_n 0, 1) := by decide +kernel
theorem dX7_plus_1 : decode cX7_plus 1 = .ok (.lconst 0, 1) := by decide +kernel
theorem dX7_plus_2 : decode cX7_plus 2 = .ok (.lcmp, 1) := by decide +kernel
theorem dX7_plus_3 : decode cX7_plus 3 = .ok (.ifCond .lt 9, 3) := by decide +kernel
theorem dX7_plus_6 : decode cX7_plus 6 = .ok (.lload_n 2, 1) := by decide +kernel
theorem dX7_plus_7 : decode cX7_plus 7 = .ok (.lconst 0, 1) := by decide +kernel
theorem dX7_plus_8 : decode cX7_plus 8 = .ok (.lcmp, 1) := by decide +kernel
theorem dX7_plus_9 : decode cX7_plus 9 = .ok (.ifCond .ge 9, 3) := by decide +kernel
theorem dX7_plus_12 : decode cX7_plus 12 = .ok (.ldc2_w 123, 3) := by decide +kernel
theorem dX7_plus_15 : decode cX7_plus 15 = .ok (.goto 22, 3) := by decide +kernel
theorem dX7_plus_18 : decode cX7_plus 18 = .ok (.lload_n 0, 1) := by decide +kernel
theorem dX7_plus_19 : decode cX7_plus 19 = .ok (.lload_n 2, 1) := by decide +kernel
theorem dX7_plus_20 : decode cX7_plus 20 = .ok (.ladd, 1) := by decide +kernel
theorem dX7_plus_21 : decode cX7_plus 21 = .ok (.ldc2_w 125, 3) := by decide +kernel
theorem dX7_plus_24 : decode cX7_plus 24 = .ok (.lcmp, 1) := by decide +kernel
theorem dX7_plus_25 : decode cX7_plus 25 = .ok (.ifCond .le 9, 3) := by decide +kernel
theorem dX7_plus_28 : decode cX7_plus 28 = .ok (.ldc2_w 125, 3) := by decide +kernel
theorem dX7_plus_31 : decode cX7_plus 31 = .ok (.goto 6, 3) := by decide +kernel
theorem dX7_plus_34 : decode cX7_plus 34 = .ok (.lload_n 0, 1) := by decide +kernel
theorem dX7_plus_35 : decode cX7_plus 35 = .ok (.lload_n 2, 1) := by decide +kernel
theorem dX7_plus_36 : decode cX7_plus 36 = .ok (.ladd, 1) := by decide +kernel
theorem dX7_plus_37 : decode cX7_plus 37 = .ok (.lreturn, 1) := by decide +kernel
theorem dX7_lesser_0 : decode cX7_lesser 0 = .ok (.lload_n 0, 1) := by decide +kernel
theorem dX7_lesser_1 : decode cX7_lesser 1 = .ok (.lconst 0, 1) := by decide +kernel
theorem dX7_lesser_2 : decode cX7_lesser 2 = .ok (.lcmp, 1) := by decide +kernel
theorem dX7_lesser_3 : decode cX7_lesser 3 = .ok (.ifCond .ge 7, 3) := by decide +kernel
theorem dX7_lesser_6 : decode cX7_lesser 6 = .ok (.lload_n 2, 1) := by decide +kernel
theorem dX7_lesser_7 : decode cX7_lesser 7 = .ok (.goto 20, 3) := by decide +kernel
theorem dX7_lesser_10 : decode cX7_lesser 10 = .ok (.lload_n 2, 1) := by decide +kernel
theorem dX7_lesser_11 : decode cX7_lesser 11 = .ok (.lconst 0, 1) := by decide +kernel
theorem dX7_lesser_12 : decode cX7_lesser 12 = .ok (.lcmp, 1) := by decide +kernel
theorem dX7_lesser_13 : decode cX7_lesser 13 = .ok (.ifCond .lt 9, 3) := by decide +kernel
theorem dX7_lesser_16 : decode cX7_lesser 16 = .ok (.lload_n 0, 1) := by decide +kernel
theorem dX7_lesser_17 : decode cX7_lesser 17 = .ok (.lload_n 2, 1) := by decide +kernel
theorem dX7_lesser_18 : decode cX7_lesser 18 = .ok (.lcmp, 1) := by decide +kernel
theorem dX7_lesser_19 : decode cX7_lesser 19 = .ok (.ifCond .ge 7, 3) := by decide +kernel
theorem dX7_lesser_22 : decode cX7_lesser 22 = .ok (.lload_n 0, 1) := by decide +kernel
theorem dX7_lesser_23 : decode cX7_lesser 23 = .ok (.goto 4, 3) := by decide +kernel
theorem dX7_lesser_26 : decode cX7_lesser 26 = .ok (.lload_n 2, 1) := by decide +kernel
theorem dX7_lesser_27 : decode cX7_lesser 27 = .ok (.lreturn, 1) := by decide +kernel
theorem dX7_reading_0 : decode cX7_reading 0 = .ok (.iload_n 1, 1) := by decide +kernel
theorem dX7_reading_1 : decode cX7_reading 1 = .ok (.iconst 5, 1) := by decide +kernel
theorem dX7_reading_2 : decode cX7_reading 2 = .ok (.if_icmp .ge 15, 3) := by decide +kernel
theorem dX7_reading_5 : decode cX7_reading 5 = .ok (.aload_n 0, 1) := by decide +kernel
theorem dX7_reading_6 : decode cX7_reading 6 = .ok (.getfield 51, 3) := by decide +kernel
theorem dX7_reading_9 : decode cX7_reading 9 = .ok (.iload_n 1, 1) := by decide +kernel
theorem dX7_reading_10 : decode cX7_reading 10 = .ok (.iload_n 2, 1) := by decide +kernel
theorem dX7_reading_11 : decode cX7_reading 11 = .ok (.iload_n 3, 1) := by decide +kernel
theorem dX7_reading_12 : decode cX7_reading 12 = .ok (.invokestatic 127, 3) := by decide +kernel
theorem dX7_reading_15 : decode cX7_reading 15 = .ok (.laload, 1) := by decide +kernel
theorem dX7_reading_16 : decode cX7_reading 16 = .ok (.lreturn, 1) := by decide +kernel
theorem dX7_reading_17 : decode cX7_reading 17 = .ok (.iload_n 3, 1) := by decide +kernel
theorem dX7_reading_18 : decode cX7_reading 18 = .ok (.iconst 4, 1) := by decide +kernel
theorem dX7_reading_19 : decode cX7_reading 19 = .ok (.if_icmp .le 27, 3) := by decide +kernel
theorem dX7_reading_22 : decode cX7_reading 22 = .ok (.aload_n 0, 1) := by decide +kernel
theorem dX7_reading_23 : decode cX7_reading 23 = .ok (.getfield 55, 3) := by decide +kernel
theorem dX7_reading_26 : decode cX7_reading 26 = .ok (.iconst 5, 1) := by decide +kernel
theorem dX7_reading_27 : decode cX7_reading 27 = .ok (.iload_n 1, 1) := by decide +kernel
theorem dX7_reading_28 : decode cX7_reading 28 = .ok (.imul, 1) := by decide +kernel
theorem dX7_reading_29 : decode cX7_reading 29 = .ok (.iload_n 2, 1) := by decide +kernel
theorem dX7_reading_30 : decode cX7_reading 30 = .ok (.iadd, 1) := by decide +kernel
theorem dX7_reading_31 : decode cX7_reading 31 = .ok (.bipush 6, 2) := by decide +kernel
theorem dX7_reading_33 : decode cX7_reading 33 = .ok (.imul, 1) := by decide +kernel
theorem dX7_reading_34 : decode cX7_reading 34 = .ok (.iload_n 3, 1) := by decide +kernel
theorem dX7_reading_35 : decode cX7_reading 35 = .ok (.iadd, 1) := by decide +kernel
theorem dX7_reading_36 : decode cX7_reading 36 = .ok (.iconst 5, 1) := by decide +kernel
theorem dX7_reading_37 : decode cX7_reading 37 = .ok (.isub, 1) := by decide +kernel
theorem dX7_reading_38 : decode cX7_reading 38 = .ok (.baload, 1) := by decide +kernel
theorem dX7_reading_39 : decode cX7_reading 39 = .ok (.ifCond .eq 7, 3) := by decide +kernel
theorem dX7_reading_42 : decode cX7_reading 42 = .ok (.lconst 0, 1) := by decide +kernel
theorem dX7_reading_43 : decode cX7_reading 43 = .ok (.goto 6, 3) := by decide +kernel
theorem dX7_reading_46 : decode cX7_reading 46 = .ok (.ldc2_w 123, 3) := by decide +kernel
theorem dX7_reading_49 : decode cX7_reading 49 = .ok (.lreturn, 1) := by decide +kernel
theorem dX7_byRule_0 : decode cX7_byRule 0 = .ok (.aload_n 0, 1) := by decide +kernel
theorem dX7_byRule_1 : decode cX7_byRule 1 = .ok (.getfield 23, 3) := by decide +kernel
theorem dX7_byRule_4 : decode cX7_byRule 4 = .ok (.iload_n 1, 1) := by decide +kernel
theorem dX7_byRule_5 : decode cX7_byRule 5 = .ok (.iaload, 1) := by decide +kernel
theorem dX7_byRule_6 : decode cX7_byRule 6 = .ok (.istore_n 3, 1) := by decide +kernel
theorem dX7_byRule_7 : decode cX7_byRule 7 = .ok (.aload_n 0, 1) := by decide +kernel
theorem dX7_byRule_8 : decode cX7_byRule 8 = .ok (.iload_n 1, 1) := by decide +kernel
theorem dX7_byRule_9 : decode cX7_byRule 9 = .ok (.invokevirtual 98, 3) := by decide +kernel
theorem dX7_byRule_12 : decode cX7_byRule 12 = .ok (.ifCond .ne 16, 3) := by decide +kernel
theorem dX7_byRule_15 : decode cX7_byRule 15 = .ok (.iload_n 3, 1) := by decide +kernel
theorem dX7_byRule_16 : decode cX7_byRule 16 = .ok (.iload_n 2, 1) := by decide +kernel
theorem dX7_byRule_17 : decode cX7_byRule 17 = .ok (.if_icmp .ne 7, 3) := by decide +kernel
theorem dX7_byRule_20 : decode cX7_byRule 20 = .ok (.lconst 1, 1) := by decide +kernel
theorem dX7_byRule_21 : decode cX7_byRule 21 = .ok (.goto 6, 3) := by decide +kernel
theorem dX7_byRule_24 : decode cX7_byRule 24 = .ok (.ldc2_w 123, 3) := by decide +kernel
theorem dX7_byRule_27 : decode cX7_byRule 27 = .ok (.lreturn, 1) := by decide +kernel
theorem dX7_byRule_28 : decode cX7_byRule 28 = .ok (.aload_n 0, 1) := by decide +kernel
theorem dX7_byRule_29 : decode cX7_byRule 29 = .ok (.iload_n 1, 1) := by decide +kernel
theorem dX7_byRule_30 : decode cX7_byRule 30 = .ok (.invokevirtual 98, 3) := by decide +kernel
theorem dX7_byRule_33 : decode cX7_byRule 33 = .ok (.iconst 1, 1) := by decide +kernel
theorem dX7_byRule_34 : decode cX7_byRule 34 = .ok (.if_icmp .ne 20, 3) := by decide +kernel
theorem dX7_byRule_37 : decode cX7_byRule 37 = .ok (.lconst 1, 1) := by decide +kernel
theorem dX7_byRule_38 : decode cX7_byRule 38 = .ok (.aload_n 0, 1) := by decide +kernel
theorem dX7_byRule_39 : decode cX7_byRule 39 = .ok (.iload_n 3, 1) := by decide +kernel
theorem dX7_byRule_40 : decode cX7_byRule 40 = .ok (.aload_n 0, 1) := by decide +kernel
theorem dX7_byRule_41 : decode cX7_byRule 41 = .ok (.getfield 26, 3) := by decide +kernel
theorem dX7_byRule_44 : decode cX7_byRule 44 = .ok (.iload_n 1, 1) := by decide +kernel
theorem dX7_byRule_45 : decode cX7_byRule 45 = .ok (.iaload, 1) := by decide +kernel
theorem dX7_byRule_46 : decode cX7_byRule 46 = .ok (.iload_n 2, 1) := by decide +kernel
theorem dX7_byRule_47 : decode cX7_byRule 47 = .ok (.invokevirtual 131, 3) := by decide +kernel
theorem dX7_byRule_50 : decode cX7_byRule 50 = .ok (.invokestatic 135, 3) := by decide +kernel
theorem dX7_byRule_53 : decode cX7_byRule 53 = .ok (.lreturn, 1) := by decide +kernel
theorem dX7_byRule_54 : decode cX7_byRule 54 = .ok (.ldc2_w 123, 3) := by decide +kernel
theorem dX7_byRule_57 : decode cX7_byRule 57 = .ok (.lstore 4, 2) := by decide +kernel
theorem dX7_byRule_59 : decode cX7_byRule 59 = .ok (.iconst 0, 1) := by decide +kernel
theorem dX7_byRule_60 : decode cX7_byRule 60 = .ok (.istore 6, 2) := by decide +kernel
theorem dX7_byRule_62 : decode cX7_byRule 62 = .ok (.iload 6, 2) := by decide +kernel
theorem dX7_byRule_64 : decode cX7_byRule 64 = .ok (.bipush 11, 2) := by decide +kernel
theorem dX7_byRule_66 : decode cX7_byRule 66 = .ok (.if_icmp .ge 45, 3) := by decide +kernel
theorem dX7_byRule_69 : decode cX7_byRule 69 = .ok (.lload 4, 2) := by decide +kernel
theorem dX7_byRule_71 : decode cX7_byRule 71 = .ok (.aload_n 0, 1) := by decide +kernel
theorem dX7_byRule_72 : decode cX7_byRule 72 = .ok (.iload_n 3, 1) := by decide +kernel
theorem dX7_byRule_73 : decode cX7_byRule 73 = .ok (.aload_n 0, 1) := by decide +kernel
theorem dX7_byRule_74 : decode cX7_byRule 74 = .ok (.getfield 26, 3) := by decide +kernel
theorem dX7_byRule_77 : decode cX7_byRule 77 = .ok (.iload_n 1, 1) := by decide +kernel
theorem dX7_byRule_78 : decode cX7_byRule 78 = .ok (.iaload, 1) := by decide +kernel
theorem dX7_byRule_79 : decode cX7_byRule 79 = .ok (.iload 6, 2) := by decide +kernel
theorem dX7_byRule_81 : decode cX7_byRule 81 = .ok (.invokevirtual 131, 3) := by decide +kernel
theorem dX7_byRule_84 : decode cX7_byRule 84 = .ok (.aload_n 0, 1) := by decide +kernel
theorem dX7_byRule_85 : decode cX7_byRule 85 = .ok (.iload 6, 2) := by decide +kernel
theorem dX7_byRule_87 : decode cX7_byRule 87 = .ok (.aload_n 0, 1) := by decide +kernel
theorem dX7_byRule_88 : decode cX7_byRule 88 = .ok (.getfield 29, 3) := by decide +kernel
theorem dX7_byRule_91 : decode cX7_byRule 91 = .ok (.iload_n 1, 1) := by decide +kernel
theorem dX7_byRule_92 : decode cX7_byRule 92 = .ok (.iaload, 1) := by decide +kernel
theorem dX7_byRule_93 : decode cX7_byRule 93 = .ok (.iload_n 2, 1) := by decide +kernel
theorem dX7_byRule_94 : decode cX7_byRule 94 = .ok (.invokevirtual 131, 3) := by decide +kernel
theorem dX7_byRule_97 : decode cX7_byRule 97 = .ok (.invokestatic 135, 3) := by decide +kernel
theorem dX7_byRule_100 : decode cX7_byRule 100 = .ok (.invokestatic 139, 3) := by decide +kernel
theorem dX7_byRule_103 : decode cX7_byRule 103 = .ok (.lstore 4, 2) := by decide +kernel
theorem dX7_byRule_105 : decode cX7_byRule 105 = .ok (.iinc 6 1, 3) := by decide +kernel
theorem dX7_byRule_108 : decode cX7_byRule 108 = .ok (.goto (-46), 3) := by decide +kernel
theorem dX7_byRule_111 : decode cX7_byRule 111 = .ok (.lconst 1, 1) := by decide +kernel
theorem dX7_byRule_112 : decode cX7_byRule 112 = .ok (.lload 4, 2) := by decide +kernel
theorem dX7_byRule_114 : decode cX7_byRule 114 = .ok (.invokestatic 135, 3) := by decide +kernel
theorem dX7_byRule_117 : decode cX7_byRule 117 = .ok (.lreturn, 1) := by decide +kernel
theorem dX7_findCosts_0 : decode cX7_findCosts 0 = .ok (.aload_n 0, 1) := by decide +kernel
theorem dX7_findCosts_1 : decode cX7_findCosts 1 = .ok (.iload_n 1, 1) := by decide +kernel
theorem dX7_findCosts_2 : decode cX7_findCosts 2 = .ok (.putfield 142, 3) := by decide +kernel
theorem dX7_findCosts_5 : decode cX7_findCosts 5 = .ok (.iconst 0, 1) := by decide +kernel
theorem dX7_findCosts_6 : decode cX7_findCosts 6 = .ok (.istore_n 2, 1) := by decide +kernel
theorem dX7_findCosts_7 : decode cX7_findCosts 7 = .ok (.iload_n 2, 1) := by decide +kernel
theorem dX7_findCosts_8 : decode cX7_findCosts 8 = .ok (.sipush 330, 3) := by decide +kernel
theorem dX7_findCosts_11 : decode cX7_findCosts 11 = .ok (.if_icmp .ge 49, 3) := by decide +kernel
theorem dX7_findCosts_14 : decode cX7_findCosts 14 = .ok (.aload_n 0, 1) := by decide +kernel
theorem dX7_findCosts_15 : decode cX7_findCosts 15 = .ok (.getfield 55, 3) := by decide +kernel
theorem dX7_findCosts_18 : decode cX7_findCosts 18 = .ok (.iload_n 2, 1) := by decide +kernel
theorem dX7_findCosts_19 : decode cX7_findCosts 19 = .ok (.iload_n 1, 1) := by decide +kernel
theorem dX7_findCosts_20 : decode cX7_findCosts 20 = .ok (.iconst (-1), 1) := by decide +kernel
theorem dX7_findCosts_21 : decode cX7_findCosts 21 = .ok (.if_icmp .eq 31, 3) := by decide +kernel
theorem dX7_findCosts_24 : decode cX7_findCosts 24 = .ok (.aload_n 0, 1) := by decide +kernel
theorem dX7_findCosts_25 : decode cX7_findCosts 25 = .ok (.iload_n 1, 1) := by decide +kernel
theorem dX7_findCosts_26 : decode cX7_findCosts 26 = .ok (.iload_n 2, 1) := by decide +kernel
theorem dX7_findCosts_27 : decode cX7_findCosts 27 = .ok (.bipush 30, 2) := by decide +kernel
theorem dX7_findCosts_29 : decode cX7_findCosts 29 = .ok (.idiv, 1) := by decide +kernel
theorem dX7_findCosts_30 : decode cX7_findCosts 30 = .ok (.iload_n 2, 1) := by decide +kernel
theorem dX7_findCosts_31 : decode cX7_findCosts 31 = .ok (.bipush 6, 2) := by decide +kernel
theorem dX7_findCosts_33 : decode cX7_findCosts 33 = .ok (.idiv, 1) := by decide +kernel
theorem dX7_findCosts_34 : decode cX7_findCosts 34 = .ok (.iconst 5, 1) := by decide +kernel
theorem dX7_findCosts_35 : decode cX7_findCosts 35 = .ok (.irem, 1) := by decide +kernel
theorem dX7_findCosts_36 : decode cX7_findCosts 36 = .ok (.iconst 5, 1) := by decide +kernel
theorem dX7_findCosts_37 : decode cX7_findCosts 37 = .ok (.iload_n 2, 1) := by decide +kernel
theorem dX7_findCosts_38 : decode cX7_findCosts 38 = .ok (.bipush 6, 2) := by decide +kernel
theorem dX7_findCosts_40 : decode cX7_findCosts 40 = .ok (.irem, 1) := by decide +kernel
theorem dX7_findCosts_41 : decode cX7_findCosts 41 = .ok (.iadd, 1) := by decide +kernel
theorem dX7_findCosts_42 : decode cX7_findCosts 42 = .ok (.invokevirtual 116, 3) := by decide +kernel
theorem dX7_findCosts_45 : decode cX7_findCosts 45 = .ok (.ifCond .eq 7, 3) := by decide +kernel
theorem dX7_findCosts_48 : decode cX7_findCosts 48 = .ok (.iconst 1, 1) := by decide +kernel
theorem dX7_findCosts_49 : decode cX7_findCosts 49 = .ok (.goto 4, 3) := by decide +kernel
theorem dX7_findCosts_52 : decode cX7_findCosts 52 = .ok (.iconst 0, 1) := by decide +kernel
theorem dX7_findCosts_53 : decode cX7_findCosts 53 = .ok (.bastore, 1) := by decide +kernel
theorem dX7_findCosts_54 : decode cX7_findCosts 54 = .ok (.iinc 2 1, 3) := by decide +kernel
theorem dX7_findCosts_57 : decode cX7_findCosts 57 = .ok (.goto (-50), 3) := by decide +kernel
theorem dX7_findCosts_60 : decode cX7_findCosts 60 = .ok (.iconst 0, 1) := by decide +kernel
theorem dX7_findCosts_61 : decode cX7_findCosts 61 = .ok (.istore_n 2, 1) := by decide +kernel
theorem dX7_findCosts_62 : decode cX7_findCosts 62 = .ok (.iload_n 2, 1) := by decide +kernel
theorem dX7_findCosts_63 : decode cX7_findCosts 63 = .ok (.sipush 275, 3) := by decide +kernel
theorem dX7_findCosts_66 : decode cX7_findCosts 66 = .ok (.if_icmp .ge 25, 3) := by decide +kernel
theorem dX7_findCosts_69 : decode cX7_findCosts 69 = .ok (.aload_n 0, 1) := by decide +kernel
theorem dX7_findCosts_70 : decode cX7_findCosts 70 = .ok (.getfield 51, 3) := by decide +kernel
theorem dX7_findCosts_73 : decode cX7_findCosts 73 = .ok (.iload_n 2, 1) := by decide +kernel
theorem dX7_findCosts_74 : decode cX7_findCosts 74 = .ok (.ldc2_w 123, 3) := by decide +kernel
theorem dX7_findCosts_77 : decode cX7_findCosts 77 = .ok (.lastore, 1) := by decide +kernel
theorem dX7_findCosts_78 : decode cX7_findCosts 78 = .ok (.aload_n 0, 1) := by decide +kernel
theorem dX7_findCosts_79 : decode cX7_findCosts 79 = .ok (.getfield 58, 3) := by decide +kernel
theorem dX7_findCosts_82 : decode cX7_findCosts 82 = .ok (.iload_n 2, 1) := by decide +kernel
theorem dX7_findCosts_83 : decode cX7_findCosts 83 = .ok (.iconst 0, 1) := by decide +kernel
theorem dX7_findCosts_84 : decode cX7_findCosts 84 = .ok (.bastore, 1) := by decide +kernel
theorem dX7_findCosts_85 : decode cX7_findCosts 85 = .ok (.iinc 2 1, 3) := by decide +kernel
theorem dX7_findCosts_88 : decode cX7_findCosts 88 = .ok (.goto (-26), 3) := by decide +kernel
theorem dX7_findCosts_91 : decode cX7_findCosts 91 = .ok (.iconst 0, 1) := by decide +kernel
theorem dX7_findCosts_92 : decode cX7_findCosts 92 = .ok (.istore_n 2, 1) := by decide +kernel
end
section
theorem dX7_findCosts_93 : decode cX7_findCosts 93 = .ok (.iload_n 2, 1) := by decide +kernel
theorem dX7_findCosts_94 : decode cX7_findCosts 94 = .ok (.aload_n 0, 1) := by decide +kernel
theorem dX7_findCosts_95 : decode cX7_findCosts 95 = .ok (.getfield 7, 3) := by decide +kernel
theorem dX7_findCosts_98 : decode cX7_findCosts 98 = .ok (.if_icmp .ge 84, 3) := by decide +kernel
theorem dX7_findCosts_101 : decode cX7_findCosts 101 = .ok (.iload_n 1, 1) := by decide +kernel
theorem dX7_findCosts_102 : decode cX7_findCosts 102 = .ok (.iconst (-1), 1) := by decide +kernel
theorem dX7_findCosts_103 : decode cX7_findCosts 103 = .ok (.if_icmp .eq 79, 3) := by decide +kernel
theorem dX7_findCosts_106 : decode cX7_findCosts 106 = .ok (.iconst 0, 1) := by decide +kernel
theorem dX7_findCosts_107 : decode cX7_findCosts 107 = .ok (.istore_n 3, 1) := by decide +kernel
theorem dX7_findCosts_108 : decode cX7_findCosts 108 = .ok (.iload_n 3, 1) := by decide +kernel
theorem dX7_findCosts_109 : decode cX7_findCosts 109 = .ok (.aload_n 0, 1) := by decide +kernel
theorem dX7_findCosts_110 : decode cX7_findCosts 110 = .ok (.getfield 13, 3) := by decide +kernel
theorem dX7_findCosts_113 : decode cX7_findCosts 113 = .ok (.if_icmp .ge 63, 3) := by decide +kernel
theorem dX7_findCosts_116 : decode cX7_findCosts 116 = .ok (.iconst 5, 1) := by decide +kernel
theorem dX7_findCosts_117 : decode cX7_findCosts 117 = .ok (.istore 4, 2) := by decide +kernel
theorem dX7_findCosts_119 : decode cX7_findCosts 119 = .ok (.iload 4, 2) := by decide +kernel
theorem dX7_findCosts_121 : decode cX7_findCosts 121 = .ok (.bipush 11, 2) := by decide +kernel
theorem dX7_findCosts_123 : decode cX7_findCosts 123 = .ok (.if_icmp .ge 47, 3) := by decide +kernel
theorem dX7_findCosts_126 : decode cX7_findCosts 126 = .ok (.aload_n 0, 1) := by decide +kernel
theorem dX7_findCosts_127 : decode cX7_findCosts 127 = .ok (.iload_n 1, 1) := by decide +kernel
theorem dX7_findCosts_128 : decode cX7_findCosts 128 = .ok (.iload_n 2, 1) := by decide +kernel
theorem dX7_findCosts_129 : decode cX7_findCosts 129 = .ok (.iload_n 3, 1) := by decide +kernel
theorem dX7_findCosts_130 : decode cX7_findCosts 130 = .ok (.iload 4, 2) := by decide +kernel
theorem dX7_findCosts_132 : decode cX7_findCosts 132 = .ok (.invokevirtual 116, 3) := by decide +kernel
theorem dX7_findCosts_135 : decode cX7_findCosts 135 = .ok (.ifCond .eq 29, 3) := by decide +kernel
theorem dX7_findCosts_138 : decode cX7_findCosts 138 = .ok (.aload_n 0, 1) := by decide +kernel
theorem dX7_findCosts_139 : decode cX7_findCosts 139 = .ok (.getfield 51, 3) := by decide +kernel
theorem dX7_findCosts_142 : decode cX7_findCosts 142 = .ok (.iload_n 2, 1) := by decide +kernel
theorem dX7_findCosts_143 : decode cX7_findCosts 143 = .ok (.iload_n 3, 1) := by decide +kernel
theorem dX7_findCosts_144 : decode cX7_findCosts 144 = .ok (.iload 4, 2) := by decide +kernel
theorem dX7_findCosts_146 : decode cX7_findCosts 146 = .ok (.invokestatic 127, 3) := by decide +kernel
theorem dX7_findCosts_149 : decode cX7_findCosts 149 = .ok (.lconst 0, 1) := by decide +kernel
theorem dX7_findCosts_150 : decode cX7_findCosts 150 = .ok (.lastore, 1) := by decide +kernel
theorem dX7_findCosts_151 : decode cX7_findCosts 151 = .ok (.aload_n 0, 1) := by decide +kernel
theorem dX7_findCosts_152 : decode cX7_findCosts 152 = .ok (.getfield 58, 3) := by decide +kernel
theorem dX7_findCosts_155 : decode cX7_findCosts 155 = .ok (.iload_n 2, 1) := by decide +kernel
theorem dX7_findCosts_156 : decode cX7_findCosts 156 = .ok (.iload_n 3, 1) := by decide +kernel
theorem dX7_findCosts_157 : decode cX7_findCosts 157 = .ok (.iload 4, 2) := by decide +kernel
theorem dX7_findCosts_159 : decode cX7_findCosts 159 = .ok (.invokestatic 127, 3) := by decide +kernel
theorem dX7_findCosts_162 : decode cX7_findCosts 162 = .ok (.iconst 1, 1) := by decide +kernel
theorem dX7_findCosts_163 : decode cX7_findCosts 163 = .ok (.bastore, 1) := by decide +kernel
theorem dX7_findCosts_164 : decode cX7_findCosts 164 = .ok (.iinc 4 1, 3) := by decide +kernel
theorem dX7_findCosts_167 : decode cX7_findCosts 167 = .ok (.goto (-48), 3) := by decide +kernel
theorem dX7_findCosts_170 : decode cX7_findCosts 170 = .ok (.iinc 3 1, 3) := by decide +kernel
theorem dX7_findCosts_173 : decode cX7_findCosts 173 = .ok (.goto (-65), 3) := by decide +kernel
theorem dX7_findCosts_176 : decode cX7_findCosts 176 = .ok (.iinc 2 1, 3) := by decide +kernel
theorem dX7_findCosts_179 : decode cX7_findCosts 179 = .ok (.goto (-86), 3) := by decide +kernel
theorem dX7_findCosts_182 : decode cX7_findCosts 182 = .ok (.iconst 1, 1) := by decide +kernel
theorem dX7_findCosts_183 : decode cX7_findCosts 183 = .ok (.istore_n 2, 1) := by decide +kernel
theorem dX7_findCosts_184 : decode cX7_findCosts 184 = .ok (.iload_n 2, 1) := by decide +kernel
theorem dX7_findCosts_185 : decode cX7_findCosts 185 = .ok (.ifCond .eq 11, 3) := by decide +kernel
theorem dX7_findCosts_188 : decode cX7_findCosts 188 = .ok (.aload_n 0, 1) := by decide +kernel
theorem dX7_findCosts_189 : decode cX7_findCosts 189 = .ok (.invokevirtual 145, 3) := by decide +kernel
theorem dX7_findCosts_192 : decode cX7_findCosts 192 = .ok (.istore_n 2, 1) := by decide +kernel
theorem dX7_findCosts_193 : decode cX7_findCosts 193 = .ok (.goto (-9), 3) := by decide +kernel
theorem dX7_findCosts_196 : decode cX7_findCosts 196 = .ok (.return_, 1) := by decide +kernel
theorem dX7_settle_0 : decode cX7_settle 0 = .ok (.ldc2_w 123, 3) := by decide +kernel
theorem dX7_settle_3 : decode cX7_settle 3 = .ok (.lstore_n 1, 1) := by decide +kernel
theorem dX7_settle_4 : decode cX7_settle 4 = .ok (.iconst 0, 1) := by decide +kernel
theorem dX7_settle_5 : decode cX7_settle 5 = .ok (.istore_n 3, 1) := by decide +kernel
theorem dX7_settle_6 : decode cX7_settle 6 = .ok (.iload_n 3, 1) := by decide +kernel
theorem dX7_settle_7 : decode cX7_settle 7 = .ok (.sipush 275, 3) := by decide +kernel
theorem dX7_settle_10 : decode cX7_settle 10 = .ok (.if_icmp .ge 18, 3) := by decide +kernel
theorem dX7_settle_13 : decode cX7_settle 13 = .ok (.aload_n 0, 1) := by decide +kernel
theorem dX7_settle_14 : decode cX7_settle 14 = .ok (.getfield 61, 3) := by decide +kernel
theorem dX7_settle_17 : decode cX7_settle 17 = .ok (.iload_n 3, 1) := by decide +kernel
theorem dX7_settle_18 : decode cX7_settle 18 = .ok (.ldc2_w 123, 3) := by decide +kernel
theorem dX7_settle_21 : decode cX7_settle 21 = .ok (.lastore, 1) := by decide +kernel
theorem dX7_settle_22 : decode cX7_settle 22 = .ok (.iinc 3 1, 3) := by decide +kernel
theorem dX7_settle_25 : decode cX7_settle 25 = .ok (.goto (-19), 3) := by decide +kernel
theorem dX7_settle_28 : decode cX7_settle 28 = .ok (.iconst 0, 1) := by decide +kernel
theorem dX7_settle_29 : decode cX7_settle 29 = .ok (.istore_n 3, 1) := by decide +kernel
theorem dX7_settle_30 : decode cX7_settle 30 = .ok (.iload_n 3, 1) := by decide +kernel
theorem dX7_settle_31 : decode cX7_settle 31 = .ok (.aload_n 0, 1) := by decide +kernel
theorem dX7_settle_32 : decode cX7_settle 32 = .ok (.getfield 79, 3) := by decide +kernel
theorem dX7_settle_35 : decode cX7_settle 35 = .ok (.if_icmp .ge 90, 3) := by decide +kernel
theorem dX7_settle_38 : decode cX7_settle 38 = .ok (.iconst 0, 1) := by decide +kernel
theorem dX7_settle_39 : decode cX7_settle 39 = .ok (.istore 4, 2) := by decide +kernel
theorem dX7_settle_41 : decode cX7_settle 41 = .ok (.iload 4, 2) := by decide +kernel
theorem dX7_settle_43 : decode cX7_settle 43 = .ok (.bipush 11, 2) := by decide +kernel
theorem dX7_settle_45 : decode cX7_settle 45 = .ok (.if_icmp .ge 74, 3) := by decide +kernel
theorem dX7_settle_48 : decode cX7_settle 48 = .ok (.aload_n 0, 1) := by decide +kernel
theorem dX7_settle_49 : decode cX7_settle 49 = .ok (.getfield 16, 3) := by decide +kernel
theorem dX7_settle_52 : decode cX7_settle 52 = .ok (.iload_n 3, 1) := by decide +kernel
theorem dX7_settle_53 : decode cX7_settle 53 = .ok (.iaload, 1) := by decide +kernel
theorem dX7_settle_54 : decode cX7_settle 54 = .ok (.aload_n 0, 1) := by decide +kernel
theorem dX7_settle_55 : decode cX7_settle 55 = .ok (.getfield 20, 3) := by decide +kernel
theorem dX7_settle_58 : decode cX7_settle 58 = .ok (.iload_n 3, 1) := by decide +kernel
theorem dX7_settle_59 : decode cX7_settle 59 = .ok (.iaload, 1) := by decide +kernel
theorem dX7_settle_60 : decode cX7_settle 60 = .ok (.iload 4, 2) := by decide +kernel
theorem dX7_settle_62 : decode cX7_settle 62 = .ok (.invokestatic 127, 3) := by decide +kernel
theorem dX7_settle_65 : decode cX7_settle 65 = .ok (.istore 5, 2) := by decide +kernel
theorem dX7_settle_67 : decode cX7_settle 67 = .ok (.aload_n 0, 1) := by decide +kernel
theorem dX7_settle_68 : decode cX7_settle 68 = .ok (.getfield 58, 3) := by decide +kernel
theorem dX7_settle_71 : decode cX7_settle 71 = .ok (.iload 5, 2) := by decide +kernel
theorem dX7_settle_73 : decode cX7_settle 73 = .ok (.baload, 1) := by decide +kernel
theorem dX7_settle_74 : decode cX7_settle 74 = .ok (.ifCond .ne 39, 3) := by decide +kernel
theorem dX7_settle_77 : decode cX7_settle 77 = .ok (.aload_n 0, 1) := by decide +kernel
theorem dX7_settle_78 : decode cX7_settle 78 = .ok (.getfield 61, 3) := by decide +kernel
theorem dX7_settle_81 : decode cX7_settle 81 = .ok (.iload 5, 2) := by decide +kernel
theorem dX7_settle_83 : decode cX7_settle 83 = .ok (.aload_n 0, 1) := by decide +kernel
theorem dX7_settle_84 : decode cX7_settle 84 = .ok (.getfield 61, 3) := by decide +kernel
theorem dX7_settle_87 : decode cX7_settle 87 = .ok (.iload 5, 2) := by decide +kernel
theorem dX7_settle_89 : decode cX7_settle 89 = .ok (.laload, 1) := by decide +kernel
theorem dX7_settle_90 : decode cX7_settle 90 = .ok (.aload_n 0, 1) := by decide +kernel
theorem dX7_settle_91 : decode cX7_settle 91 = .ok (.iload_n 3, 1) := by decide +kernel
theorem dX7_settle_92 : decode cX7_settle 92 = .ok (.iload 4, 2) := by decide +kernel
theorem dX7_settle_94 : decode cX7_settle 94 = .ok (.invokevirtual 149, 3) := by decide +kernel
theorem dX7_settle_97 : decode cX7_settle 97 = .ok (.invokestatic 139, 3) := by decide +kernel
theorem dX7_settle_100 : decode cX7_settle 100 = .ok (.lastore, 1) := by decide +kernel
theorem dX7_settle_101 : decode cX7_settle 101 = .ok (.lload_n 1, 1) := by decide +kernel
theorem dX7_settle_102 : decode cX7_settle 102 = .ok (.aload_n 0, 1) := by decide +kernel
theorem dX7_settle_103 : decode cX7_settle 103 = .ok (.getfield 61, 3) := by decide +kernel
theorem dX7_settle_106 : decode cX7_settle 106 = .ok (.iload 5, 2) := by decide +kernel
theorem dX7_settle_108 : decode cX7_settle 108 = .ok (.laload, 1) := by decide +kernel
theorem dX7_settle_109 : decode cX7_settle 109 = .ok (.invokestatic 139, 3) := by decide +kernel
theorem dX7_settle_112 : decode cX7_settle 112 = .ok (.lstore_n 1, 1) := by decide +kernel
theorem dX7_settle_113 : decode cX7_settle 113 = .ok (.iinc 4 1, 3) := by decide +kernel
theorem dX7_settle_116 : decode cX7_settle 116 = .ok (.goto (-75), 3) := by decide +kernel
theorem dX7_settle_119 : decode cX7_settle 119 = .ok (.iinc 3 1, 3) := by decide +kernel
theorem dX7_settle_122 : decode cX7_settle 122 = .ok (.goto (-92), 3) := by decide +kernel
theorem dX7_settle_125 : decode cX7_settle 125 = .ok (.iconst 0, 1) := by decide +kernel
theorem dX7_settle_126 : decode cX7_settle 126 = .ok (.istore_n 3, 1) := by decide +kernel
theorem dX7_settle_127 : decode cX7_settle 127 = .ok (.iconst 0, 1) := by decide +kernel
theorem dX7_settle_128 : decode cX7_settle 128 = .ok (.istore 4, 2) := by decide +kernel
theorem dX7_settle_130 : decode cX7_settle 130 = .ok (.iload 4, 2) := by decide +kernel
theorem dX7_settle_132 : decode cX7_settle 132 = .ok (.sipush 275, 3) := by decide +kernel
theorem dX7_settle_135 : decode cX7_settle 135 = .ok (.if_icmp .ge 61, 3) := by decide +kernel
theorem dX7_settle_138 : decode cX7_settle 138 = .ok (.aload_n 0, 1) := by decide +kernel
theorem dX7_settle_139 : decode cX7_settle 139 = .ok (.getfield 58, 3) := by decide +kernel
theorem dX7_settle_142 : decode cX7_settle 142 = .ok (.iload 4, 2) := by decide +kernel
theorem dX7_settle_144 : decode cX7_settle 144 = .ok (.baload, 1) := by decide +kernel
theorem dX7_settle_145 : decode cX7_settle 145 = .ok (.ifCond .ne 45, 3) := by decide +kernel
theorem dX7_settle_148 : decode cX7_settle 148 = .ok (.aload_n 0, 1) := by decide +kernel
theorem dX7_settle_149 : decode cX7_settle 149 = .ok (.getfield 61, 3) := by decide +kernel
theorem dX7_settle_152 : decode cX7_settle 152 = .ok (.iload 4, 2) := by decide +kernel
theorem dX7_settle_154 : decode cX7_settle 154 = .ok (.laload, 1) := by decide +kernel
theorem dX7_settle_155 : decode cX7_settle 155 = .ok (.lconst 0, 1) := by decide +kernel
theorem dX7_settle_156 : decode cX7_settle 156 = .ok (.lcmp, 1) := by decide +kernel
theorem dX7_settle_157 : decode cX7_settle 157 = .ok (.ifCond .lt 33, 3) := by decide +kernel
theorem dX7_settle_160 : decode cX7_settle 160 = .ok (.aload_n 0, 1) := by decide +kernel
theorem dX7_settle_161 : decode cX7_settle 161 = .ok (.getfield 61, 3) := by decide +kernel
theorem dX7_settle_164 : decode cX7_settle 164 = .ok (.iload 4, 2) := by decide +kernel
theorem dX7_settle_166 : decode cX7_settle 166 = .ok (.laload, 1) := by decide +kernel
theorem dX7_settle_167 : decode cX7_settle 167 = .ok (.lload_n 1, 1) := by decide +kernel
theorem dX7_settle_168 : decode cX7_settle 168 = .ok (.lcmp, 1) := by decide +kernel
theorem dX7_settle_169 : decode cX7_settle 169 = .ok (.ifCond .ne 21, 3) := by decide +kernel
theorem dX7_settle_172 : decode cX7_settle 172 = .ok (.aload_n 0, 1) := by decide +kernel
theorem dX7_settle_173 : decode cX7_settle 173 = .ok (.getfield 51, 3) := by decide +kernel
theorem dX7_settle_176 : decode cX7_settle 176 = .ok (.iload 4, 2) := by decide +kernel
theorem dX7_settle_178 : decode cX7_settle 178 = .ok (.lload_n 1, 1) := by decide +kernel
theorem dX7_settle_179 : decode cX7_settle 179 = .ok (.lastore, 1) := by decide +kernel
theorem dX7_settle_180 : decode cX7_settle 180 = .ok (.aload_n 0, 1) := by decide +kernel
theorem dX7_settle_181 : decode cX7_settle 181 = .ok (.getfield 58, 3) := by decide +kernel
theorem dX7_settle_184 : decode cX7_settle 184 = .ok (.iload 4, 2) := by decide +kernel
theorem dX7_settle_186 : decode cX7_settle 186 = .ok (.iconst 1, 1) := by decide +kernel
theorem dX7_settle_187 : decode cX7_settle 187 = .ok (.bastore, 1) := by decide +kernel
theorem dX7_settle_188 : decode cX7_settle 188 = .ok (.iconst 1, 1) := by decide +kernel
theorem dX7_settle_189 : decode cX7_settle 189 = .ok (.istore_n 3, 1) := by decide +kernel
theorem dX7_settle_190 : decode cX7_settle 190 = .ok (.iinc 4 1, 3) := by decide +kernel
theorem dX7_settle_193 : decode cX7_settle 193 = .ok (.goto (-63), 3) := by decide +kernel
theorem dX7_settle_196 : decode cX7_settle 196 = .ok (.iload_n 3, 1) := by decide +kernel
theorem dX7_settle_197 : decode cX7_settle 197 = .ok (.ireturn, 1) := by decide +kernel
theorem dX7_readStack_0 : decode cX7_readStack 0 = .ok (.iconst 0, 1) := by decide +kernel
theorem dX7_readStack_1 : decode cX7_readStack 1 = .ok (.istore_n 1, 1) := by decide +kernel
theorem dX7_readStack_2 : decode cX7_readStack 2 = .ok (.iload_n 1, 1) := by decide +kernel
theorem dX7_readStack_3 : decode cX7_readStack 3 = .ok (.bipush 11, 2) := by decide +kernel
theorem dX7_readStack_5 : decode cX7_readStack 5 = .ok (.if_icmp .ge 39, 3) := by decide +kernel
theorem dX7_readStack_8 : decode cX7_readStack 8 = .ok (.aload_n 0, 1) := by decide +kernel
theorem dX7_readStack_9 : decode cX7_readStack 9 = .ok (.getfield 64, 3) := by decide +kernel
theorem dX7_readStack_12 : decode cX7_readStack 12 = .ok (.iload_n 1, 1) := by decide +kernel
theorem dX7_readStack_13 : decode cX7_readStack 13 = .ok (.aload_n 0, 1) := by decide +kernel
theorem dX7_readStack_14 : decode cX7_readStack 14 = .ok (.getfield 47, 3) := by decide +kernel
theorem dX7_readStack_17 : decode cX7_readStack 17 = .ok (.bipush 11, 2) := by decide +kernel
theorem dX7_readStack_19 : decode cX7_readStack 19 = .ok (.aload_n 0, 1) := by decide +kernel
theorem dX7_readStack_20 : decode cX7_readStack 20 = .ok (.getfield 142, 3) := by decide +kernel
theorem dX7_readStack_23 : decode cX7_readStack 23 = .ok (.imul, 1) := by decide +kernel
theorem dX7_readStack_24 : decode cX7_readStack 24 = .ok (.iload_n 1, 1) := by decide +kernel
theorem dX7_readStack_25 : decode cX7_readStack 25 = .ok (.iadd, 1) := by decide +kernel
theorem dX7_readStack_26 : decode cX7_readStack 26 = .ok (.baload, 1) := by decide +kernel
theorem dX7_readStack_27 : decode cX7_readStack 27 = .ok (.ifCond .eq 7, 3) := by decide +kernel
theorem dX7_readStack_30 : decode cX7_readStack 30 = .ok (.lconst 0, 1) := by decide +kernel
theorem dX7_readStack_31 : decode cX7_readStack 31 = .ok (.goto 6, 3) := by decide +kernel
theorem dX7_readStack_34 : decode cX7_readStack 34 = .ok (.ldc2_w 123, 3) := by decide +kernel
theorem dX7_readStack_37 : decode cX7_readStack 37 = .ok (.lastore, 1) := by decide +kernel
theorem dX7_readStack_38 : decode cX7_readStack 38 = .ok (.iinc 1 1, 3) := by decide +kernel
theorem dX7_readStack_41 : decode cX7_readStack 41 = .ok (.goto (-39), 3) := by decide +kernel
theorem dX7_readStack_44 : decode cX7_readStack 44 = .ok (.iconst 0, 1) := by decide +kernel
theorem dX7_readStack_45 : decode cX7_readStack 45 = .ok (.istore_n 1, 1) := by decide +kernel
theorem dX7_readStack_46 : decode cX7_readStack 46 = .ok (.iload_n 1, 1) := by decide +kernel
theorem dX7_readStack_47 : decode cX7_readStack 47 = .ok (.aload_n 0, 1) := by decide +kernel
theorem dX7_readStack_48 : decode cX7_readStack 48 = .ok (.getfield 85, 3) := by decide +kernel
theorem dX7_readStack_51 : decode cX7_readStack 51 = .ok (.if_icmp .ge 90, 3) := by decide +kernel
theorem dX7_readStack_54 : decode cX7_readStack 54 = .ok (.iconst 0, 1) := by decide +kernel
theorem dX7_readStack_55 : decode cX7_readStack 55 = .ok (.istore_n 2, 1) := by decide +kernel
theorem dX7_readStack_56 : decode cX7_readStack 56 = .ok (.iload_n 2, 1) := by decide +kernel
theorem dX7_readStack_57 : decode cX7_readStack 57 = .ok (.bipush 11, 2) := by decide +kernel
theorem dX7_readStack_59 : decode cX7_readStack 59 = .ok (.if_icmp .ge 76, 3) := by decide +kernel
theorem dX7_readStack_62 : decode cX7_readStack 62 = .ok (.ldc2_w 123, 3) := by decide +kernel
theorem dX7_readStack_65 : decode cX7_readStack 65 = .ok (.lstore_n 3, 1) := by decide +kernel
theorem dX7_readStack_66 : decode cX7_readStack 66 = .ok (.iconst 0, 1) := by decide +kernel
theorem dX7_readStack_67 : decode cX7_readStack 67 = .ok (.istore 5, 2) := by decide +kernel
theorem dX7_readStack_69 : decode cX7_readStack 69 = .ok (.iload 5, 2) := by decide +kernel
theorem dX7_readStack_71 : decode cX7_readStack 71 = .ok (.bipush 11, 2) := by decide +kernel
theorem dX7_readStack_73 : decode cX7_readStack 73 = .ok (.if_icmp .ge 42, 3) := by decide +kernel
theorem dX7_readStack_76 : decode cX7_readStack 76 = .ok (.lload_n 3, 1) := by decide +kernel
theorem dX7_readStack_77 : decode cX7_readStack 77 = .ok (.aload_n 0, 1) := by decide +kernel
theorem dX7_readStack_78 : decode cX7_readStack 78 = .ok (.iload_n 2, 1) := by decide +kernel
theorem dX7_readStack_79 : decode cX7_readStack 79 = .ok (.aload_n 0, 1) := by decide +kernel
theorem dX7_readStack_80 : decode cX7_readStack 80 = .ok (.getfield 32, 3) := by decide +kernel
theorem dX7_readStack_83 : decode cX7_readStack 83 = .ok (.iload_n 1, 1) := by decide +kernel
theorem dX7_readStack_84 : decode cX7_readStack 84 = .ok (.iaload, 1) := by decide +kernel
theorem dX7_readStack_85 : decode cX7_readStack 85 = .ok (.iload 5, 2) := by decide +kernel
theorem dX7_readStack_87 : decode cX7_readStack 87 = .ok (.invokevirtual 131, 3) := by decide +kernel
theorem dX7_readStack_90 : decode cX7_readStack 90 = .ok (.aload_n 0, 1) := by decide +kernel
theorem dX7_readStack_91 : decode cX7_readStack 91 = .ok (.getfield 64, 3) := by decide +kernel
theorem dX7_readStack_94 : decode cX7_readStack 94 = .ok (.bipush 11, 2) := by decide +kernel
theorem dX7_readStack_96 : decode cX7_readStack 96 = .ok (.iload_n 1, 1) := by decide +kernel
theorem dX7_readStack_97 : decode cX7_readStack 97 = .ok (.imul, 1) := by decide +kernel
theorem dX7_readStack_98 : decode cX7_readStack 98 = .ok (.iload 5, 2) := by decide +kernel
theorem dX7_readStack_100 : decode cX7_readStack 100 = .ok (.iadd, 1) := by decide +kernel
theorem dX7_readStack_101 : decode cX7_readStack 101 = .ok (.laload, 1) := by decide +kernel
theorem dX7_readStack_102 : decode cX7_readStack 102 = .ok (.invokestatic 135, 3) := by decide +kernel
theorem dX7_readStack_105 : decode cX7_readStack 105 = .ok (.invokestatic 139, 3) := by decide +kernel
theorem dX7_readStack_108 : decode cX7_readStack 108 = .ok (.lstore_n 3, 1) := by decide +kernel
theorem dX7_readStack_109 : decode cX7_readStack 109 = .ok (.iinc 5 1, 3) := by decide +kernel
theorem dX7_readStack_112 : decode cX7_readStack 112 = .ok (.goto (-43), 3) := by decide +kernel
theorem dX7_readStack_115 : decode cX7_readStack 115 = .ok (.aload_n 0, 1) := by decide +kernel
theorem dX7_readStack_116 : decode cX7_readStack 116 = .ok (.getfield 64, 3) := by decide +kernel
theorem dX7_readStack_119 : decode cX7_readStack 119 = .ok (.bipush 11, 2) := by decide +kernel
theorem dX7_readStack_121 : decode cX7_readStack 121 = .ok (.iload_n 1, 1) := by decide +kernel
theorem dX7_readStack_122 : decode cX7_readStack 122 = .ok (.iconst 1, 1) := by decide +kernel
theorem dX7_readStack_123 : decode cX7_readStack 123 = .ok (.iadd, 1) := by decide +kernel
theorem dX7_readStack_124 : decode cX7_readStack 124 = .ok (.imul, 1) := by decide +kernel
theorem dX7_readStack_125 : decode cX7_readStack 125 = .ok (.iload_n 2, 1) := by decide +kernel
theorem dX7_readStack_126 : decode cX7_readStack 126 = .ok (.iadd, 1) := by decide +kernel
theorem dX7_readStack_127 : decode cX7_readStack 127 = .ok (.lload_n 3, 1) := by decide +kernel
theorem dX7_readStack_128 : decode cX7_readStack 128 = .ok (.lastore, 1) := by decide +kernel
theorem dX7_readStack_129 : decode cX7_readStack 129 = .ok (.iinc 2 1, 3) := by decide +kernel
theorem dX7_readStack_132 : decode cX7_readStack 132 = .ok (.goto (-76), 3) := by decide +kernel
theorem dX7_readStack_135 : decode cX7_readStack 135 = .ok (.iinc 1 1, 3) := by decide +kernel
theorem dX7_readStack_138 : decode cX7_readStack 138 = .ok (.goto (-92), 3) := by decide +kernel
theorem dX7_readStack_141 : decode cX7_readStack 141 = .ok (.return_, 1) := by decide +kernel
theorem dX7_farNow_0 : decode cX7_farNow 0 = .ok (.aload_n 0, 1) := by decide +kernel
theorem dX7_farNow_1 : decode cX7_farNow 1 = .ok (.invokevirtual 153, 3) := by decide +kernel
theorem dX7_farNow_4 : decode cX7_farNow 4 = .ok (.aload_n 0, 1) := by decide +kernel
theorem dX7_farNow_5 : decode cX7_farNow 5 = .ok (.getfield 64, 3) := by decide +kernel
theorem dX7_farNow_8 : decode cX7_farNow 8 = .ok (.bipush 11, 2) := by decide +kernel
theorem dX7_farNow_10 : decode cX7_farNow 10 = .ok (.aload_n 0, 1) := by decide +kernel
theorem dX7_farNow_11 : decode cX7_farNow 11 = .ok (.getfield 85, 3) := by decide +kernel
theorem dX7_farNow_14 : decode cX7_farNow 14 = .ok (.imul, 1) := by decide +kernel
theorem dX7_farNow_15 : decode cX7_farNow 15 = .ok (.aload_n 0, 1) := by decide +kernel
theorem dX7_farNow_16 : decode cX7_farNow 16 = .ok (.getfield 82, 3) := by decide +kernel
theorem dX7_farNow_19 : decode cX7_farNow 19 = .ok (.iadd, 1) := by decide +kernel
theorem dX7_farNow_20 : decode cX7_farNow 20 = .ok (.laload, 1) := by decide +kernel
theorem dX7_farNow_21 : decode cX7_farNow 21 = .ok (.lreturn, 1) := by decide +kernel
theorem dX7_far_0 : decode cX7_far 0 = .ok (.aload_n 0, 1) := by decide +kernel
theorem dX7_far_1 : decode cX7_far 1 = .ok (.iload_n 1, 1) := by decide +kernel
theorem dX7_far_2 : decode cX7_far 2 = .ok (.invokevirtual 109, 3) := by decide +kernel
theorem dX7_far_5 : decode cX7_far 5 = .ok (.ifCond .ne 7, 3) := by decide +kernel
theorem dX7_far_8 : decode cX7_far 8 = .ok (.ldc2_w 156, 3) := by decide +kernel
theorem dX7_far_11 : decode cX7_far 11 = .ok (.lreturn, 1) := by decide +kernel
theorem dX7_far_12 : decode cX7_far 12 = .ok (.aload_n 0, 1) := by decide +kernel
theorem dX7_far_13 : decode cX7_far 13 = .ok (.iload_n 1, 1) := by decide +kernel
theorem dX7_far_14 : decode cX7_far 14 = .ok (.invokevirtual 158, 3) := by decide +kernel
theorem dX7_far_17 : decode cX7_far 17 = .ok (.aload_n 0, 1) := by decide +kernel
theorem dX7_far_18 : decode cX7_far 18 = .ok (.invokevirtual 161, 3) := by decide +kernel
theorem dX7_far_21 : decode cX7_far 21 = .ok (.lreturn, 1) := by decide +kernel
theorem dX7_nextRule_0 : decode cX7_nextRule 0 = .ok (.iconst 0, 1) := by decide +kernel
theorem dX7_nextRule_1 : decode cX7_nextRule 1 = .ok (.istore_n 3, 1) := by decide +kernel
theorem dX7_nextRule_2 : decode cX7_nextRule 2 = .ok (.iload_n 3, 1) := by decide +kernel
theorem dX7_nextRule_3 : decode cX7_nextRule 3 = .ok (.aload_n 0, 1) := by decide +kernel
theorem dX7_nextRule_4 : decode cX7_nextRule 4 = .ok (.getfield 79, 3) := by decide +kernel
theorem dX7_nextRule_7 : decode cX7_nextRule 7 = .ok (.if_icmp .ge 81, 3) := by decide +kernel
theorem dX7_nextRule_10 : decode cX7_nextRule 10 = .ok (.aload_n 0, 1) := by decide +kernel
theorem dX7_nextRule_11 : decode cX7_nextRule 11 = .ok (.iload_n 3, 1) := by decide +kernel
theorem dX7_nextRule_12 : decode cX7_nextRule 12 = .ok (.invokevirtual 102, 3) := by decide +kernel
theorem dX7_nextRule_15 : decode cX7_nextRule 15 = .ok (.ifCond .eq 67, 3) := by decide +kernel
theorem dX7_nextRule_18 : decode cX7_nextRule 18 = .ok (.ldc2_w 123, 3) := by decide +kernel
theorem dX7_nextRule_21 : decode cX7_nextRule 21 = .ok (.lstore 4, 2) := by decide +kernel
theorem dX7_nextRule_23 : decode cX7_nextRule 23 = .ok (.iconst 0, 1) := by decide +kernel
theorem dX7_nextRule_24 : decode cX7_nextRule 24 = .ok (.istore 6, 2) := by decide +kernel
theorem dX7_nextRule_26 : decode cX7_nextRule 26 = .ok (.iload 6, 2) := by decide +kernel
theorem dX7_nextRule_28 : decode cX7_nextRule 28 = .ok (.bipush 11, 2) := by decide +kernel
theorem dX7_nextRule_30 : decode cX7_nextRule 30 = .ok (.if_icmp .ge 43, 3) := by decide +kernel
theorem dX7_nextRule_33 : decode cX7_nextRule 33 = .ok (.lload 4, 2) := by decide +kernel
theorem dX7_nextRule_35 : decode cX7_nextRule 35 = .ok (.aload_n 0, 1) := by decide +kernel
theorem dX7_nextRule_36 : decode cX7_nextRule 36 = .ok (.iload_n 3, 1) := by decide +kernel
theorem dX7_nextRule_37 : decode cX7_nextRule 37 = .ok (.iload 6, 2) := by decide +kernel
theorem dX7_nextRule_39 : decode cX7_nextRule 39 = .ok (.invokevirtual 149, 3) := by decide +kernel
theorem dX7_nextRule_42 : decode cX7_nextRule 42 = .ok (.aload_n 0, 1) := by decide +kernel
theorem dX7_nextRule_43 : decode cX7_nextRule 43 = .ok (.getfield 64, 3) := by decide +kernel
theorem dX7_nextRule_46 : decode cX7_nextRule 46 = .ok (.bipush 11, 2) := by decide +kernel
theorem dX7_nextRule_48 : decode cX7_nextRule 48 = .ok (.aload_n 0, 1) := by decide +kernel
theorem dX7_nextRule_49 : decode cX7_nextRule 49 = .ok (.getfield 85, 3) := by decide +kernel
theorem dX7_nextRule_52 : decode cX7_nextRule 52 = .ok (.iconst 1, 1) := by decide +kernel
theorem dX7_nextRule_53 : decode cX7_nextRule 53 = .ok (.isub, 1) := by decide +kernel
theorem dX7_nextRule_54 : decode cX7_nextRule 54 = .ok (.imul, 1) := by decide +kernel
theorem dX7_nextRule_55 : decode cX7_nextRule 55 = .ok (.iload 6, 2) := by decide +kernel
theorem dX7_nextRule_57 : decode cX7_nextRule 57 = .ok (.iadd, 1) := by decide +kernel
theorem dX7_nextRule_58 : decode cX7_nextRule 58 = .ok (.laload, 1) := by decide +kernel
theorem dX7_nextRule_59 : decode cX7_nextRule 59 = .ok (.invokestatic 135, 3) := by decide +kernel
theorem dX7_nextRule_62 : decode cX7_nextRule 62 = .ok (.invokestatic 139, 3) := by decide +kernel
theorem dX7_nextRule_65 : decode cX7_nextRule 65 = .ok (.lstore 4, 2) := by decide +kernel
theorem dX7_nextRule_67 : decode cX7_nextRule 67 = .ok (.iinc 6 1, 3) := by decide +kernel
theorem dX7_nextRule_70 : decode cX7_nextRule 70 = .ok (.goto (-44), 3) := by decide +kernel
theorem dX7_nextRule_73 : decode cX7_nextRule 73 = .ok (.lload 4, 2) := by decide +kernel
theorem dX7_nextRule_75 : decode cX7_nextRule 75 = .ok (.lload_n 1, 1) := by decide +kernel
theorem dX7_nextRule_76 : decode cX7_nextRule 76 = .ok (.lcmp, 1) := by decide +kernel
theorem dX7_nextRule_77 : decode cX7_nextRule 77 = .ok (.ifCond .ne 5, 3) := by decide +kernel
theorem dX7_nextRule_80 : decode cX7_nextRule 80 = .ok (.iload_n 3, 1) := by decide +kernel
theorem dX7_nextRule_81 : decode cX7_nextRule 81 = .ok (.ireturn, 1) := by decide +kernel
theorem dX7_nextRule_82 : decode cX7_nextRule 82 = .ok (.iinc 3 1, 3) := by decide +kernel
theorem dX7_nextRule_85 : decode cX7_nextRule 85 = .ok (.goto (-83), 3) := by decide +kernel
theorem dX7_nextRule_88 : decode cX7_nextRule 88 = .ok (.iconst (-1), 1) := by decide +kernel
theorem dX7_nextRule_89 : decode cX7_nextRule 89 = .ok (.ireturn, 1) := by decide +kernel
theorem dX7_step_0 : decode cX7_step 0 = .ok (.aload_n 0, 1) := by decide +kernel
theorem dX7_step_1 : decode cX7_step 1 = .ok (.iload_n 1, 1) := by decide +kernel
theorem dX7_step_2 : decode cX7_step 2 = .ok (.invokevirtual 109, 3) := by decide +kernel
theorem dX7_step_5 : decode cX7_step 5 = .ok (.ifCond .ne 6, 3) := by decide +kernel
theorem dX7_step_8 : decode cX7_step 8 = .ok (.bipush (-2), 2) := by decide +kernel
theorem dX7_step_10 : decode cX7_step 10 = .ok (.ireturn, 1) := by decide +kernel
theorem dX7_step_11 : decode cX7_step 11 = .ok (.aload_n 0, 1) := by decide +kernel
theorem dX7_step_12 : decode cX7_step 12 = .ok (.iload_n 1, 1) := by decide +kernel
theorem dX7_step_13 : decode cX7_step 13 = .ok (.invokevirtual 158, 3) := by decide +kernel
theorem dX7_step_16 : decode cX7_step 16 = .ok (.aload_n 0, 1) := by decide +kernel
theorem dX7_step_17 : decode cX7_step 17 = .ok (.invokevirtual 161, 3) := by decide +kernel
theorem dX7_step_20 : decode cX7_step 20 = .ok (.lstore_n 2, 1) := by decide +kernel
theorem dX7_step_21 : decode cX7_step 21 = .ok (.lload_n 2, 1) := by decide +kernel
theorem dX7_step_22 : decode cX7_step 22 = .ok (.lconst 0, 1) := by decide +kernel
theorem dX7_step_23 : decode cX7_step 23 = .ok (.lcmp, 1) := by decide +kernel
theorem dX7_step_24 : decode cX7_step 24 = .ok (.ifCond .le 11, 3) := by decide +kernel
theorem dX7_step_27 : decode cX7_step 27 = .ok (.lload_n 2, 1) := by decide +kernel
theorem dX7_step_28 : decode cX7_step 28 = .ok (.ldc2_w 125, 3) := by decide +kernel
theorem dX7_step_31 : decode cX7_step 31 = .ok (.lcmp, 1) := by decide +kernel
theorem dX7_step_32 : decode cX7_step 32 = .ok (.ifCond .lt 6, 3) := by decide +kernel
theorem dX7_step_35 : decode cX7_step 35 = .ok (.bipush (-3), 2) := by decide +kernel
theorem dX7_step_37 : decode cX7_step 37 = .ok (.ireturn, 1) := by decide +kernel
theorem dX7_step_38 : decode cX7_step 38 = .ok (.aload_n 0, 1) := by decide +kernel
theorem dX7_step_39 : decode cX7_step 39 = .ok (.lload_n 2, 1) := by decide +kernel
theorem dX7_step_40 : decode cX7_step 40 = .ok (.invokevirtual 165, 3) := by decide +kernel
theorem dX7_step_43 : decode cX7_step 43 = .ok (.istore 4, 2) := by decide +kernel
theorem dX7_step_45 : decode cX7_step 45 = .ok (.aload_n 0, 1) := by decide +kernel
theorem dX7_step_46 : decode cX7_step 46 = .ok (.getfield 85, 3) := by decide +kernel
theorem dX7_step_49 : decode cX7_step 49 = .ok (.iconst 1, 1) := by decide +kernel
theorem dX7_step_50 : decode cX7_step 50 = .ok (.isub, 1) := by decide +kernel
theorem dX7_step_51 : decode cX7_step 51 = .ok (.aload_n 0, 1) := by decide +kernel
theorem dX7_step_52 : decode cX7_step 52 = .ok (.iload 4, 2) := by decide +kernel
theorem dX7_step_54 : decode cX7_step 54 = .ok (.invokevirtual 98, 3) := by decide +kernel
theorem dX7_step_57 : decode cX7_step 57 = .ok (.iadd, 1) := by decide +kernel
theorem dX7_step_58 : decode cX7_step 58 = .ok (.bipush 60, 2) := by decide +kernel
theorem dX7_step_60 : decode cX7_step 60 = .ok (.if_icmp .le 6, 3) := by decide +kernel
theorem dX7_step_63 : decode cX7_step 63 = .ok (.bipush (-4), 2) := by decide +kernel
theorem dX7_step_65 : decode cX7_step 65 = .ok (.ireturn, 1) := by decide +kernel
theorem dX7_step_66 : decode cX7_step 66 = .ok (.aload_n 0, 1) := by decide +kernel
theorem dX7_step_67 : decode cX7_step 67 = .ok (.iload 4, 2) := by decide +kernel
theorem dX7_step_69 : decode cX7_step 69 = .ok (.invokevirtual 105, 3) := by decide +kernel
theorem dX7_step_72 : decode cX7_step 72 = .ok (.iload 4, 2) := by decide +kernel
theorem dX7_step_74 : decode cX7_step 74 = .ok (.ireturn, 1) := by decide +kernel
theorem dX7_run_0 : decode cX7_run 0 = .ok (.aload_n 0, 1) := by decide +kernel
theorem dX7_run_1 : decode cX7_run 1 = .ok (.iload_n 1, 1) := by decide +kernel
theorem dX7_run_2 : decode cX7_run 2 = .ok (.invokevirtual 109, 3) := by decide +kernel
theorem dX7_run_5 : decode cX7_run 5 = .ok (.ifCond .eq 15, 3) := by decide +kernel
theorem dX7_run_8 : decode cX7_run 8 = .ok (.iload_n 2, 1) := by decide +kernel
theorem dX7_run_9 : decode cX7_run 9 = .ok (.i2l, 1) := by decide +kernel
theorem dX7_run_10 : decode cX7_run 10 = .ok (.lconst 0, 1) := by decide +kernel
theorem dX7_run_11 : decode cX7_run 11 = .ok (.ldc2_w 169, 3) := by decide +kernel
theorem dX7_run_14 : decode cX7_run 14 = .ok (.invokestatic 73, 3) := by decide +kernel
theorem dX7_run_17 : decode cX7_run 17 = .ok (.ifCond .ne 6, 3) := by decide +kernel
theorem dX7_run_20 : decode cX7_run 20 = .ok (.bipush (-2), 2) := by decide +kernel
theorem dX7_run_22 : decode cX7_run 22 = .ok (.ireturn, 1) := by decide +kernel
theorem dX7_run_23 : decode cX7_run 23 = .ok (.aload_n 0, 1) := by decide +kernel
theorem dX7_run_24 : decode cX7_run 24 = .ok (.iload_n 1, 1) := by decide +kernel
theorem dX7_run_25 : decode cX7_run 25 = .ok (.invokevirtual 158, 3) := by decide +kernel
theorem dX7_run_28 : decode cX7_run 28 = .ok (.aload_n 0, 1) := by decide +kernel
theorem dX7_run_29 : decode cX7_run 29 = .ok (.invokevirtual 161, 3) := by decide +kernel
theorem dX7_run_32 : decode cX7_run 32 = .ok (.lstore_n 3, 1) := by decide +kernel
theorem dX7_run_33 : decode cX7_run 33 = .ok (.lload_n 3, 1) := by decide +kernel
theorem dX7_run_34 : decode cX7_run 34 = .ok (.lconst 0, 1) := by decide +kernel
theorem dX7_run_35 : decode cX7_run 35 = .ok (.lcmp, 1) := by decide +kernel
theorem dX7_run_36 : decode cX7_run 36 = .ok (.ifCond .lt 11, 3) := by decide +kernel
theorem dX7_run_39 : decode cX7_run 39 = .ok (.lload_n 3, 1) := by decide +kernel
theorem dX7_run_40 : decode cX7_run 40 = .ok (.ldc2_w 125, 3) := by decide +kernel
theorem dX7_run_43 : decode cX7_run 43 = .ok (.lcmp, 1) := by decide +kernel
theorem dX7_run_44 : decode cX7_run 44 = .ok (.ifCond .lt 6, 3) := by decide +kernel
theorem dX7_run_47 : decode cX7_run 47 = .ok (.bipush (-3), 2) := by decide +kernel
theorem dX7_run_49 : decode cX7_run 49 = .ok (.ireturn, 1) := by decide +kernel
theorem dX7_run_50 : decode cX7_run 50 = .ok (.iconst 0, 1) := by decide +kernel
theorem dX7_run_51 : decode cX7_run 51 = .ok (.istore 5, 2) := by decide +kernel
theorem dX7_run_53 : decode cX7_run 53 = .ok (.iload 5, 2) := by decide +kernel
theorem dX7_run_55 : decode cX7_run 55 = .ok (.iload_n 2, 1) := by decide +kernel
theorem dX7_run_56 : decode cX7_run 56 = .ok (.if_icmp .ge 54, 3) := by decide +kernel
theorem dX7_run_59 : decode cX7_run 59 = .ok (.lload_n 3, 1) := by decide +kernel
theorem dX7_run_60 : decode cX7_run 60 = .ok (.lconst 0, 1) := by decide +kernel
theorem dX7_run_61 : decode cX7_run 61 = .ok (.lcmp, 1) := by decide +kernel
theorem dX7_run_62 : decode cX7_run 62 = .ok (.ifCond .le 48, 3) := by decide +kernel
theorem dX7_run_65 : decode cX7_run 65 = .ok (.aload_n 0, 1) := by decide +kernel
theorem dX7_run_66 : decode cX7_run 66 = .ok (.lload_n 3, 1) := by decide +kernel
theorem dX7_run_67 : decode cX7_run 67 = .ok (.invokevirtual 165, 3) := by decide +kernel
theorem dX7_run_70 : decode cX7_run 70 = .ok (.istore 6, 2) := by decide +kernel
theorem dX7_run_72 : decode cX7_run 72 = .ok (.aload_n 0, 1) := by decide +kernel
theorem dX7_run_73 : decode cX7_run 73 = .ok (.getfield 85, 3) := by decide +kernel
theorem dX7_run_76 : decode cX7_run 76 = .ok (.iconst 1, 1) := by decide +kernel
theorem dX7_run_77 : decode cX7_run 77 = .ok (.isub, 1) := by decide +kernel
theorem dX7_run_78 : decode cX7_run 78 = .ok (.aload_n 0, 1) := by decide +kernel
theorem dX7_run_79 : decode cX7_run 79 = .ok (.iload 6, 2) := by decide +kernel
theorem dX7_run_81 : decode cX7_run 81 = .ok (.invokevirtual 98, 3) := by decide +kernel
theorem dX7_run_84 : decode cX7_run 84 = .ok (.iadd, 1) := by decide +kernel
theorem dX7_run_85 : decode cX7_run 85 = .ok (.bipush 60, 2) := by decide +kernel
theorem dX7_run_87 : decode cX7_run 87 = .ok (.if_icmp .le 6, 3) := by decide +kernel
theorem dX7_run_90 : decode cX7_run 90 = .ok (.iload 5, 2) := by decide +kernel
theorem dX7_run_92 : decode cX7_run 92 = .ok (.ireturn, 1) := by decide +kernel
theorem dX7_run_93 : decode cX7_run 93 = .ok (.aload_n 0, 1) := by decide +kernel
theorem dX7_run_94 : decode cX7_run 94 = .ok (.iload 6, 2) := by decide +kernel
theorem dX7_run_96 : decode cX7_run 96 = .ok (.invokevirtual 105, 3) := by decide +kernel
theorem dX7_run_99 : decode cX7_run 99 = .ok (.iinc 5 1, 3) := by decide +kernel
theorem dX7_run_102 : decode cX7_run 102 = .ok (.aload_n 0, 1) := by decide +kernel
theorem dX7_run_103 : decode cX7_run 103 = .ok (.invokevirtual 161, 3) := by decide +kernel
theorem dX7_run_106 : decode cX7_run 106 = .ok (.lstore_n 3, 1) := by decide +kernel
theorem dX7_run_107 : decode cX7_run 107 = .ok (.goto (-54), 3) := by decide +kernel
theorem dX7_run_110 : decode cX7_run 110 = .ok (.iload 5, 2) := by decide +kernel
theorem dX7_run_112 : decode cX7_run 112 = .ok (.ireturn, 1) := by decide +kernel
theorem dX7_pop_0 : decode cX7_pop 0 = .ok (.aload_n 0, 1) := by decide +kernel
theorem dX7_pop_1 : decode cX7_pop 1 = .ok (.iload_n 1, 1) := by decide +kernel
theorem dX7_pop_2 : decode cX7_pop 2 = .ok (.invokevirtual 91, 3) := by decide +kernel
theorem dX7_pop_5 : decode cX7_pop 5 = .ok (.ifCond .eq 19, 3) := by decide +kernel
theorem dX7_pop_8 : decode cX7_pop 8 = .ok (.aload_n 0, 1) := by decide +kernel
theorem dX7_pop_9 : decode cX7_pop 9 = .ok (.iload_n 2, 1) := by decide +kernel
theorem dX7_pop_10 : decode cX7_pop 10 = .ok (.invokevirtual 95, 3) := by decide +kernel
theorem dX7_pop_13 : decode cX7_pop 13 = .ok (.ifCond .eq 11, 3) := by decide +kernel
theorem dX7_pop_16 : decode cX7_pop 16 = .ok (.aload_n 0, 1) := by decide +kernel
theorem dX7_pop_17 : decode cX7_pop 17 = .ok (.iload_n 3, 1) := by decide +kernel
theorem dX7_pop_18 : decode cX7_pop 18 = .ok (.invokevirtual 91, 3) := by decide +kernel
theorem dX7_pop_21 : decode cX7_pop 21 = .ok (.ifCond .ne 7, 3) := by decide +kernel
theorem dX7_pop_24 : decode cX7_pop 24 = .ok (.ldc2_w 156, 3) := by decide +kernel
theorem dX7_pop_27 : decode cX7_pop 27 = .ok (.lreturn, 1) := by decide +kernel
theorem dX7_pop_28 : decode cX7_pop 28 = .ok (.aload_n 0, 1) := by decide +kernel
theorem dX7_pop_29 : decode cX7_pop 29 = .ok (.iconst (-1), 1) := by decide +kernel
theorem dX7_pop_30 : decode cX7_pop 30 = .ok (.invokevirtual 158, 3) := by decide +kernel
theorem dX7_pop_33 : decode cX7_pop 33 = .ok (.aload_n 0, 1) := by decide +kernel
theorem dX7_pop_34 : decode cX7_pop 34 = .ok (.getfield 51, 3) := by decide +kernel
theorem dX7_pop_37 : decode cX7_pop 37 = .ok (.iload_n 1, 1) := by decide +kernel
theorem dX7_pop_38 : decode cX7_pop 38 = .ok (.iload_n 2, 1) := by decide +kernel
theorem dX7_pop_39 : decode cX7_pop 39 = .ok (.iload_n 3, 1) := by decide +kernel
theorem dX7_pop_40 : decode cX7_pop 40 = .ok (.invokestatic 127, 3) := by decide +kernel
theorem dX7_pop_43 : decode cX7_pop 43 = .ok (.laload, 1) := by decide +kernel
theorem dX7_pop_44 : decode cX7_pop 44 = .ok (.lreturn, 1) := by decide +kernel
theorem dX7_headsBy_0 : decode cX7_headsBy 0 = .ok (.iconst 0, 1) := by decide +kernel
theorem dX7_headsBy_1 : decode cX7_headsBy 1 = .ok (.istore_n 2, 1) := by decide +kernel
theorem dX7_headsBy_2 : decode cX7_headsBy 2 = .ok (.aload_n 0, 1) := by decide +kernel
theorem dX7_headsBy_3 : decode cX7_headsBy 3 = .ok (.iload_n 1, 1) := by decide +kernel
theorem dX7_headsBy_4 : decode cX7_headsBy 4 = .ok (.invokevirtual 98, 3) := by decide +kernel
theorem dX7_headsBy_7 : decode cX7_headsBy 7 = .ok (.ifCond .le 23, 3) := by decide +kernel
theorem dX7_headsBy_10 : decode cX7_headsBy 10 = .ok (.iload_n 2, 1) := by decide +kernel
theorem dX7_headsBy_11 : decode cX7_headsBy 11 = .ok (.iconst 1, 1) := by decide +kernel
theorem dX7_headsBy_12 : decode cX7_headsBy 12 = .ok (.iconst 5, 1) := by decide +kernel
theorem dX7_headsBy_13 : decode cX7_headsBy 13 = .ok (.aload_n 0, 1) := by decide +kernel
theorem dX7_headsBy_14 : decode cX7_headsBy 14 = .ok (.getfield 23, 3) := by decide +kernel
theorem dX7_headsBy_17 : decode cX7_headsBy 17 = .ok (.iload_n 1, 1) := by decide +kernel
theorem dX7_headsBy_18 : decode cX7_headsBy 18 = .ok (.iaload, 1) := by decide +kernel
theorem dX7_headsBy_19 : decode cX7_headsBy 19 = .ok (.imul, 1) := by decide +kernel
theorem dX7_headsBy_20 : decode cX7_headsBy 20 = .ok (.aload_n 0, 1) := by decide +kernel
theorem dX7_headsBy_21 : decode cX7_headsBy 21 = .ok (.getfield 26, 3) := by decide +kernel
theorem dX7_headsBy_24 : decode cX7_headsBy 24 = .ok (.iload_n 1, 1) := by decide +kernel
theorem dX7_headsBy_25 : decode cX7_headsBy 25 = .ok (.iaload, 1) := by decide +kernel
theorem dX7_headsBy_26 : decode cX7_headsBy 26 = .ok (.iadd, 1) := by decide +kernel
theorem dX7_headsBy_27 : decode cX7_headsBy 27 = .ok (.ishl, 1) := by decide +kernel
theorem dX7_headsBy_28 : decode cX7_headsBy 28 = .ok (.ior, 1) := by decide +kernel
theorem dX7_headsBy_29 : decode cX7_headsBy 29 = .ok (.istore_n 2, 1) := by decide +kernel
theorem dX7_headsBy_30 : decode cX7_headsBy 30 = .ok (.iconst 0, 1) := by decide +kernel
theorem dX7_headsBy_31 : decode cX7_headsBy 31 = .ok (.istore_n 3, 1) := by decide +kernel
theorem dX7_headsBy_32 : decode cX7_headsBy 32 = .ok (.iload_n 3, 1) := by decide +kernel
theorem dX7_headsBy_33 : decode cX7_headsBy 33 = .ok (.aload_n 0, 1) := by decide +kernel
theorem dX7_headsBy_34 : decode cX7_headsBy 34 = .ok (.getfield 7, 3) := by decide +kernel
theorem dX7_headsBy_37 : decode cX7_headsBy 37 = .ok (.if_icmp .ge 63, 3) := by decide +kernel
theorem dX7_headsBy_40 : decode cX7_headsBy 40 = .ok (.aload_n 0, 1) := by decide +kernel
theorem dX7_headsBy_41 : decode cX7_headsBy 41 = .ok (.iload_n 1, 1) := by decide +kernel
theorem dX7_headsBy_42 : decode cX7_headsBy 42 = .ok (.invokevirtual 98, 3) := by decide +kernel
theorem dX7_headsBy_45 : decode cX7_headsBy 45 = .ok (.iconst 2, 1) := by decide +kernel
theorem dX7_headsBy_46 : decode cX7_headsBy 46 = .ok (.if_icmp .ne 54, 3) := by decide +kernel
theorem dX7_headsBy_49 : decode cX7_headsBy 49 = .ok (.iload_n 2, 1) := by decide +kernel
theorem dX7_headsBy_50 : decode cX7_headsBy 50 = .ok (.aload_n 0, 1) := by decide +kernel
theorem dX7_headsBy_51 : decode cX7_headsBy 51 = .ok (.getfield 51, 3) := by decide +kernel
theorem dX7_headsBy_54 : decode cX7_headsBy 54 = .ok (.aload_n 0, 1) := by decide +kernel
theorem dX7_headsBy_55 : decode cX7_headsBy 55 = .ok (.getfield 23, 3) := by decide +kernel
theorem dX7_headsBy_58 : decode cX7_headsBy 58 = .ok (.iload_n 1, 1) := by decide +kernel
theorem dX7_headsBy_59 : decode cX7_headsBy 59 = .ok (.iaload, 1) := by decide +kernel
theorem dX7_headsBy_60 : decode cX7_headsBy 60 = .ok (.aload_n 0, 1) := by decide +kernel
theorem dX7_headsBy_61 : decode cX7_headsBy 61 = .ok (.getfield 26, 3) := by decide +kernel
theorem dX7_headsBy_64 : decode cX7_headsBy 64 = .ok (.iload_n 1, 1) := by decide +kernel
theorem dX7_headsBy_65 : decode cX7_headsBy 65 = .ok (.iaload, 1) := by decide +kernel
theorem dX7_headsBy_66 : decode cX7_headsBy 66 = .ok (.iload_n 3, 1) := by decide +kernel
theorem dX7_headsBy_67 : decode cX7_headsBy 67 = .ok (.invokestatic 127, 3) := by decide +kernel
theorem dX7_headsBy_70 : decode cX7_headsBy 70 = .ok (.laload, 1) := by decide +kernel
theorem dX7_headsBy_71 : decode cX7_headsBy 71 = .ok (.lconst 0, 1) := by decide +kernel
theorem dX7_headsBy_72 : decode cX7_headsBy 72 = .ok (.lcmp, 1) := by decide +kernel
theorem dX7_headsBy_73 : decode cX7_headsBy 73 = .ok (.ifCond .lt 18, 3) := by decide +kernel
theorem dX7_headsBy_76 : decode cX7_headsBy 76 = .ok (.iconst 1, 1) := by decide +kernel
theorem dX7_headsBy_77 : decode cX7_headsBy 77 = .ok (.iconst 5, 1) := by decide +kernel
theorem dX7_headsBy_78 : decode cX7_headsBy 78 = .ok (.iload_n 3, 1) := by decide +kernel
theorem dX7_headsBy_79 : decode cX7_headsBy 79 = .ok (.imul, 1) := by decide +kernel
theorem dX7_headsBy_80 : decode cX7_headsBy 80 = .ok (.aload_n 0, 1) := by decide +kernel
theorem dX7_headsBy_81 : decode cX7_headsBy 81 = .ok (.getfield 29, 3) := by decide +kernel
theorem dX7_headsBy_84 : decode cX7_headsBy 84 = .ok (.iload_n 1, 1) := by decide +kernel
theorem dX7_headsBy_85 : decode cX7_headsBy 85 = .ok (.iaload, 1) := by decide +kernel
theorem dX7_headsBy_86 : decode cX7_headsBy 86 = .ok (.iadd, 1) := by decide +kernel
theorem dX7_headsBy_87 : decode cX7_headsBy 87 = .ok (.ishl, 1) := by decide +kernel
theorem dX7_headsBy_88 : decode cX7_headsBy 88 = .ok (.goto 4, 3) := by decide +kernel
theorem dX7_headsBy_91 : decode cX7_headsBy 91 = .ok (.iconst 0, 1) := by decide +kernel
theorem dX7_headsBy_92 : decode cX7_headsBy 92 = .ok (.ior, 1) := by decide +kernel
theorem dX7_headsBy_93 : decode cX7_headsBy 93 = .ok (.istore_n 2, 1) := by decide +kernel
theorem dX7_headsBy_94 : decode cX7_headsBy 94 = .ok (.iinc 3 1, 3) := by decide +kernel
theorem dX7_headsBy_97 : decode cX7_headsBy 97 = .ok (.goto (-65), 3) := by decide +kernel
theorem dX7_headsBy_100 : decode cX7_headsBy 100 = .ok (.iload_n 2, 1) := by decide +kernel
theorem dX7_headsBy_101 : decode cX7_headsBy 101 = .ok (.ireturn, 1) := by decide +kernel
theorem dX7_findReach_0 : decode cX7_findReach 0 = .ok (.iconst 0, 1) := by decide +kernel
theorem dX7_findReach_1 : decode cX7_findReach 1 = .ok (.istore_n 1, 1) := by decide +kernel
theorem dX7_findReach_2 : decode cX7_findReach 2 = .ok (.iload_n 1, 1) := by decide +kernel
theorem dX7_findReach_3 : decode cX7_findReach 3 = .ok (.bipush 25, 2) := by decide +kernel
theorem dX7_findReach_5 : decode cX7_findReach 5 = .ok (.if_icmp .ge 16, 3) := by decide +kernel
theorem dX7_findReach_8 : decode cX7_findReach 8 = .ok (.aload_n 0, 1) := by decide +kernel
theorem dX7_findReach_9 : decode cX7_findReach 9 = .ok (.getfield 67, 3) := by decide +kernel
theorem dX7_findReach_12 : decode cX7_findReach 12 = .ok (.iload_n 1, 1) := by decide +kernel
theorem dX7_findReach_13 : decode cX7_findReach 13 = .ok (.iconst 0, 1) := by decide +kernel
theorem dX7_findReach_14 : decode cX7_findReach 14 = .ok (.iastore, 1) := by decide +kernel
theorem dX7_findReach_15 : decode cX7_findReach 15 = .ok (.iinc 1 1, 3) := by decide +kernel
theorem dX7_findReach_18 : decode cX7_findReach 18 = .ok (.goto (-16), 3) := by decide +kernel
theorem dX7_findReach_21 : decode cX7_findReach 21 = .ok (.iconst 0, 1) := by decide +kernel
theorem dX7_findReach_22 : decode cX7_findReach 22 = .ok (.istore_n 1, 1) := by decide +kernel
theorem dX7_findReach_23 : decode cX7_findReach 23 = .ok (.iload_n 1, 1) := by decide +kernel
theorem dX7_findReach_24 : decode cX7_findReach 24 = .ok (.bipush 26, 2) := by decide +kernel
theorem dX7_findReach_26 : decode cX7_findReach 26 = .ok (.if_icmp .ge 106, 3) := by decide +kernel
theorem dX7_findReach_29 : decode cX7_findReach 29 = .ok (.iconst 0, 1) := by decide +kernel
theorem dX7_findReach_30 : decode cX7_findReach 30 = .ok (.istore_n 2, 1) := by decide +kernel
theorem dX7_findReach_31 : decode cX7_findReach 31 = .ok (.iload_n 2, 1) := by decide +kernel
theorem dX7_findReach_32 : decode cX7_findReach 32 = .ok (.aload_n 0, 1) := by decide +kernel
theorem dX7_findReach_33 : decode cX7_findReach 33 = .ok (.getfield 79, 3) := by decide +kernel
theorem dX7_findReach_36 : decode cX7_findReach 36 = .ok (.if_icmp .ge 90, 3) := by decide +kernel
theorem dX7_findReach_39 : decode cX7_findReach 39 = .ok (.iconst 5, 1) := by decide +kernel
theorem dX7_findReach_40 : decode cX7_findReach 40 = .ok (.aload_n 0, 1) := by decide +kernel
theorem dX7_findReach_41 : decode cX7_findReach 41 = .ok (.getfield 16, 3) := by decide +kernel
theorem dX7_findReach_44 : decode cX7_findReach 44 = .ok (.iload_n 2, 1) := by decide +kernel
theorem dX7_findReach_45 : decode cX7_findReach 45 = .ok (.iaload, 1) := by decide +kernel
theorem dX7_findReach_46 : decode cX7_findReach 46 = .ok (.imul, 1) := by decide +kernel
theorem dX7_findReach_47 : decode cX7_findReach 47 = .ok (.aload_n 0, 1) := by decide +kernel
theorem dX7_findReach_48 : decode cX7_findReach 48 = .ok (.getfield 20, 3) := by decide +kernel
theorem dX7_findReach_51 : decode cX7_findReach 51 = .ok (.iload_n 2, 1) := by decide +kernel
theorem dX7_findReach_52 : decode cX7_findReach 52 = .ok (.iaload, 1) := by decide +kernel
theorem dX7_findReach_53 : decode cX7_findReach 53 = .ok (.iadd, 1) := by decide +kernel
theorem dX7_findReach_54 : decode cX7_findReach 54 = .ok (.istore_n 3, 1) := by decide +kernel
theorem dX7_findReach_55 : decode cX7_findReach 55 = .ok (.aload_n 0, 1) := by decide +kernel
theorem dX7_findReach_56 : decode cX7_findReach 56 = .ok (.iload_n 2, 1) := by decide +kernel
theorem dX7_findReach_57 : decode cX7_findReach 57 = .ok (.invokevirtual 171, 3) := by decide +kernel
theorem dX7_findReach_60 : decode cX7_findReach 60 = .ok (.istore 4, 2) := by decide +kernel
theorem dX7_findReach_62 : decode cX7_findReach 62 = .ok (.aload_n 0, 1) := by decide +kernel
theorem dX7_findReach_63 : decode cX7_findReach 63 = .ok (.getfield 67, 3) := by decide +kernel
theorem dX7_findReach_66 : decode cX7_findReach 66 = .ok (.iload_n 3, 1) := by decide +kernel
theorem dX7_findReach_67 : decode cX7_findReach 67 = .ok (.dup2, 1) := by decide +kernel
theorem dX7_findReach_68 : decode cX7_findReach 68 = .ok (.iaload, 1) := by decide +kernel
theorem dX7_findReach_69 : decode cX7_findReach 69 = .ok (.iload 4, 2) := by decide +kernel
theorem dX7_findReach_71 : decode cX7_findReach 71 = .ok (.ior, 1) := by decide +kernel
theorem dX7_findReach_72 : decode cX7_findReach 72 = .ok (.iastore, 1) := by decide +kernel
theorem dX7_findReach_73 : decode cX7_findReach 73 = .ok (.iconst 0, 1) := by decide +kernel
theorem dX7_findReach_74 : decode cX7_findReach 74 = .ok (.istore 5, 2) := by decide +kernel
theorem dX7_findReach_76 : decode cX7_findReach 76 = .ok (.iload 5, 2) := by decide +kernel
theorem dX7_findReach_78 : decode cX7_findReach 78 = .ok (.bipush 25, 2) := by decide +kernel
theorem dX7_findReach_80 : decode cX7_findReach 80 = .ok (.if_icmp .ge 40, 3) := by decide +kernel
theorem dX7_findReach_83 : decode cX7_findReach 83 = .ok (.aload_n 0, 1) := by decide +kernel
theorem dX7_findReach_84 : decode cX7_findReach 84 = .ok (.getfield 67, 3) := by decide +kernel
theorem dX7_findReach_87 : decode cX7_findReach 87 = .ok (.iload_n 3, 1) := by decide +kernel
theorem dX7_findReach_88 : decode cX7_findReach 88 = .ok (.dup2, 1) := by decide +kernel
theorem dX7_findReach_89 : decode cX7_findReach 89 = .ok (.iaload, 1) := by decide +kernel
theorem dX7_findReach_90 : decode cX7_findReach 90 = .ok (.iload 4, 2) := by decide +kernel
theorem dX7_findReach_92 : decode cX7_findReach 92 = .ok (.iload 5, 2) := by decide +kernel
theorem dX7_findReach_94 : decode cX7_findReach 94 = .ok (.ishr, 1) := by decide +kernel
theorem dX7_findReach_95 : decode cX7_findReach 95 = .ok (.iconst 1, 1) := by decide +kernel
theorem dX7_findReach_96 : decode cX7_findReach 96 = .ok (.iand, 1) := by decide +kernel
theorem dX7_findReach_97 : decode cX7_findReach 97 = .ok (.iconst 1, 1) := by decide +kernel
theorem dX7_findReach_98 : decode cX7_findReach 98 = .ok (.if_icmp .ne 13, 3) := by decide +kernel
theorem dX7_findReach_101 : decode cX7_findReach 101 = .ok (.aload_n 0, 1) := by decide +kernel
theorem dX7_findReach_102 : decode cX7_findReach 102 = .ok (.getfield 67, 3) := by decide +kernel
theorem dX7_findReach_105 : decode cX7_findReach 105 = .ok (.iload 5, 2) := by decide +kernel
theorem dX7_findReach_107 : decode cX7_findReach 107 = .ok (.iaload, 1) := by decide +kernel
theorem dX7_findReach_108 : decode cX7_findReach 108 = .ok (.goto 4, 3) := by decide +kernel
theorem dX7_findReach_111 : decode cX7_findReach 111 = .ok (.iconst 0, 1) := by decide +kernel
theorem dX7_findReach_112 : decode cX7_findReach 112 = .ok (.ior, 1) := by decide +kernel
theorem dX7_findReach_113 : decode cX7_findReach 113 = .ok (.iastore, 1) := by decide +kernel
theorem dX7_findReach_114 : decode cX7_findReach 114 = .ok (.iinc 5 1, 3) := by decide +kernel
theorem dX7_findReach_117 : decode cX7_findReach 117 = .ok (.goto (-41), 3) := by decide +kernel
theorem dX7_findReach_120 : decode cX7_findReach 120 = .ok (.iinc 2 1, 3) := by decide +kernel
theorem dX7_findReach_123 : decode cX7_findReach 123 = .ok (.goto (-92), 3) := by decide +kernel
theorem dX7_findReach_126 : decode cX7_findReach 126 = .ok (.iinc 1 1, 3) := by decide +kernel
theorem dX7_findReach_129 : decode cX7_findReach 129 = .ok (.goto (-106), 3) := by decide +kernel
theorem dX7_findReach_132 : decode cX7_findReach 132 = .ok (.return_, 1) := by decide +kernel
theorem dX7_isForEver_0 : decode cX7_isForEver 0 = .ok (.aload_n 0, 1) := by decide +kernel
theorem dX7_isForEver_1 : decode cX7_isForEver 1 = .ok (.getfield 67, 3) := by decide +kernel
theorem dX7_isForEver_4 : decode cX7_isForEver 4 = .ok (.iload_n 1, 1) := by decide +kernel
theorem dX7_isForEver_5 : decode cX7_isForEver 5 = .ok (.iaload, 1) := by decide +kernel
theorem dX7_isForEver_6 : decode cX7_isForEver 6 = .ok (.iload_n 1, 1) := by decide +kernel
theorem dX7_isForEver_7 : decode cX7_isForEver 7 = .ok (.ishr, 1) := by decide +kernel
theorem dX7_isForEver_8 : decode cX7_isForEver 8 = .ok (.iconst 1, 1) := by decide +kernel
theorem dX7_isForEver_9 : decode cX7_isForEver 9 = .ok (.iand, 1) := by decide +kernel
theorem dX7_isForEver_10 : decode cX7_isForEver 10 = .ok (.iconst 1, 1) := by decide +kernel
theorem dX7_isForEver_11 : decode cX7_isForEver 11 = .ok (.if_icmp .ne 7, 3) := by decide +kernel
theorem dX7_isForEver_14 : decode cX7_isForEver 14 = .ok (.iconst 1, 1) := by decide +kernel
theorem dX7_isForEver_15 : decode cX7_isForEver 15 = .ok (.goto 4, 3) := by decide +kernel
theorem dX7_isForEver_18 : decode cX7_isForEver 18 = .ok (.iconst 0, 1) := by decide +kernel
theorem dX7_isForEver_19 : decode cX7_isForEver 19 = .ok (.istore_n 2, 1) := by decide +kernel
theorem dX7_isForEver_20 : decode cX7_isForEver 20 = .ok (.iconst 0, 1) := by decide +kernel
theorem dX7_isForEver_21 : decode cX7_isForEver 21 = .ok (.istore_n 3, 1) := by decide +kernel
theorem dX7_isForEver_22 : decode cX7_isForEver 22 = .ok (.iload_n 3, 1) := by decide +kernel
theorem dX7_isForEver_23 : decode cX7_isForEver 23 = .ok (.bipush 25, 2) := by decide +kernel
theorem dX7_isForEver_25 : decode cX7_isForEver 25 = .ok (.if_icmp .ge 47, 3) := by decide +kernel
theorem dX7_isForEver_28 : decode cX7_isForEver 28 = .ok (.iload_n 2, 1) := by decide +kernel
theorem dX7_isForEver_29 : decode cX7_isForEver 29 = .ok (.ifCond .ne 31, 3) := by decide +kernel
theorem dX7_isForEver_32 : decode cX7_isForEver 32 = .ok (.aload_n 0, 1) := by decide +kernel
theorem dX7_isForEver_33 : decode cX7_isForEver 33 = .ok (.getfield 67, 3) := by decide +kernel
theorem dX7_isForEver_36 : decode cX7_isForEver 36 = .ok (.iload_n 1, 1) := by decide +kernel
theorem dX7_isForEver_37 : decode cX7_isForEver 37 = .ok (.iaload, 1) := by decide +kernel
theorem dX7_isForEver_38 : decode cX7_isForEver 38 = .ok (.iload_n 3, 1) := by decide +kernel
theorem dX7_isForEver_39 : decode cX7_isForEver 39 = .ok (.ishr, 1) := by decide +kernel
theorem dX7_isForEver_40 : decode cX7_isForEver 40 = .ok (.iconst 1, 1) := by decide +kernel
theorem dX7_isForEver_41 : decode cX7_isForEver 41 = .ok (.iand, 1) := by decide +kernel
theorem dX7_isForEver_42 : decode cX7_isForEver 42 = .ok (.iconst 1, 1) := by decide +kernel
theorem dX7_isForEver_43 : decode cX7_isForEver 43 = .ok (.if_icmp .ne 21, 3) := by decide +kernel
theorem dX7_isForEver_46 : decode cX7_isForEver 46 = .ok (.aload_n 0, 1) := by decide +kernel
theorem dX7_isForEver_47 : decode cX7_isForEver 47 = .ok (.getfield 67, 3) := by decide +kernel
theorem dX7_isForEver_50 : decode cX7_isForEver 50 = .ok (.iload_n 3, 1) := by decide +kernel
theorem dX7_isForEver_51 : decode cX7_isForEver 51 = .ok (.iaload, 1) := by decide +kernel
theorem dX7_isForEver_52 : decode cX7_isForEver 52 = .ok (.iload_n 3, 1) := by decide +kernel
theorem dX7_isForEver_53 : decode cX7_isForEver 53 = .ok (.ishr, 1) := by decide +kernel
theorem dX7_isForEver_54 : decode cX7_isForEver 54 = .ok (.iconst 1, 1) := by decide +kernel
theorem dX7_isForEver_55 : decode cX7_isForEver 55 = .ok (.iand, 1) := by decide +kernel
theorem dX7_isForEver_56 : decode cX7_isForEver 56 = .ok (.iconst 1, 1) := by decide +kernel
theorem dX7_isForEver_57 : decode cX7_isForEver 57 = .ok (.if_icmp .ne 7, 3) := by decide +kernel
theorem dX7_isForEver_60 : decode cX7_isForEver 60 = .ok (.iconst 1, 1) := by decide +kernel
theorem dX7_isForEver_61 : decode cX7_isForEver 61 = .ok (.goto 4, 3) := by decide +kernel
theorem dX7_isForEver_64 : decode cX7_isForEver 64 = .ok (.iconst 0, 1) := by decide +kernel
theorem dX7_isForEver_65 : decode cX7_isForEver 65 = .ok (.istore_n 2, 1) := by decide +kernel
theorem dX7_isForEver_66 : decode cX7_isForEver 66 = .ok (.iinc 3 1, 3) := by decide +kernel
theorem dX7_isForEver_69 : decode cX7_isForEver 69 = .ok (.goto (-47), 3) := by decide +kernel
theorem dX7_isForEver_72 : decode cX7_isForEver 72 = .ok (.iload_n 2, 1) := by decide +kernel
theorem dX7_isForEver_73 : decode cX7_isForEver 73 = .ok (.ireturn, 1) := by decide +kernel
theorem dX7_popped_0 : decode cX7_popped 0 = .ok (.iconst 0, 1) := by decide +kernel
theorem dX7_popped_1 : decode cX7_popped 1 = .ok (.istore_n 3, 1) := by decide +kernel
theorem dX7_popped_2 : decode cX7_popped 2 = .ok (.iconst 0, 1) := by decide +kernel
theorem dX7_popped_3 : decode cX7_popped 3 = .ok (.istore 4, 2) := by decide +kernel
theorem dX7_popped_5 : decode cX7_popped 5 = .ok (.iload 4, 2) := by decide +kernel
theorem dX7_popped_7 : decode cX7_popped 7 = .ok (.aload_n 0, 1) := by decide +kernel
theorem dX7_popped_8 : decode cX7_popped 8 = .ok (.getfield 7, 3) := by decide +kernel
theorem dX7_popped_11 : decode cX7_popped 11 = .ok (.if_icmp .ge 66, 3) := by decide +kernel
theorem dX7_popped_14 : decode cX7_popped 14 = .ok (.iconst 0, 1) := by decide +kernel
theorem dX7_popped_15 : decode cX7_popped 15 = .ok (.istore 5, 2) := by decide +kernel
theorem dX7_popped_17 : decode cX7_popped 17 = .ok (.iload 5, 2) := by decide +kernel
theorem dX7_popped_19 : decode cX7_popped 19 = .ok (.aload_n 0, 1) := by decide +kernel
theorem dX7_popped_20 : decode cX7_popped 20 = .ok (.getfield 7, 3) := by decide +kernel
theorem dX7_popped_23 : decode cX7_popped 23 = .ok (.if_icmp .ge 48, 3) := by decide +kernel
theorem dX7_popped_26 : decode cX7_popped 26 = .ok (.iload_n 1, 1) := by decide +kernel
theorem dX7_popped_27 : decode cX7_popped 27 = .ok (.iload 4, 2) := by decide +kernel
theorem dX7_popped_29 : decode cX7_popped 29 = .ok (.ishr, 1) := by decide +kernel
theorem dX7_popped_30 : decode cX7_popped 30 = .ok (.iconst 1, 1) := by decide +kernel
theorem dX7_popped_31 : decode cX7_popped 31 = .ok (.iand, 1) := by decide +kernel
theorem dX7_popped_32 : decode cX7_popped 32 = .ok (.iconst 1, 1) := by decide +kernel
theorem dX7_popped_33 : decode cX7_popped 33 = .ok (.if_icmp .ne 38, 3) := by decide +kernel
theorem dX7_popped_36 : decode cX7_popped 36 = .ok (.iload_n 3, 1) := by decide +kernel
theorem dX7_popped_37 : decode cX7_popped 37 = .ok (.aload_n 0, 1) := by decide +kernel
theorem dX7_popped_38 : decode cX7_popped 38 = .ok (.getfield 51, 3) := by decide +kernel
theorem dX7_popped_41 : decode cX7_popped 41 = .ok (.iload 4, 2) := by decide +kernel
theorem dX7_popped_43 : decode cX7_popped 43 = .ok (.iload_n 2, 1) := by decide +kernel
theorem dX7_popped_44 : decode cX7_popped 44 = .ok (.iload 5, 2) := by decide +kernel
theorem dX7_popped_46 : decode cX7_popped 46 = .ok (.invokestatic 127, 3) := by decide +kernel
theorem dX7_popped_49 : decode cX7_popped 49 = .ok (.laload, 1) := by decide +kernel
theorem dX7_popped_50 : decode cX7_popped 50 = .ok (.lconst 0, 1) := by decide +kernel
theorem dX7_popped_51 : decode cX7_popped 51 = .ok (.lcmp, 1) := by decide +kernel
theorem dX7_popped_52 : decode cX7_popped 52 = .ok (.ifCond .lt 10, 3) := by decide +kernel
theorem dX7_popped_55 : decode cX7_popped 55 = .ok (.iconst 1, 1) := by decide +kernel
theorem dX7_popped_56 : decode cX7_popped 56 = .ok (.iload 5, 2) := by decide +kernel
theorem dX7_popped_58 : decode cX7_popped 58 = .ok (.ishl, 1) := by decide +kernel
theorem dX7_popped_59 : decode cX7_popped 59 = .ok (.goto 4, 3) := by decide +kernel
theorem dX7_popped_62 : decode cX7_popped 62 = .ok (.iconst 0, 1) := by decide +kernel
theorem dX7_popped_63 : decode cX7_popped 63 = .ok (.ior, 1) := by decide +kernel
theorem dX7_popped_64 : decode cX7_popped 64 = .ok (.istore_n 3, 1) := by decide +kernel
theorem dX7_popped_65 : decode cX7_popped 65 = .ok (.iinc 5 1, 3) := by decide +kernel
theorem dX7_popped_68 : decode cX7_popped 68 = .ok (.goto (-51), 3) := by decide +kernel
theorem dX7_popped_71 : decode cX7_popped 71 = .ok (.iinc 4 1, 3) := by decide +kernel
theorem dX7_popped_74 : decode cX7_popped 74 = .ok (.goto (-69), 3) := by decide +kernel
theorem dX7_popped_77 : decode cX7_popped 77 = .ok (.iload_n 3, 1) := by decide +kernel
theorem dX7_popped_78 : decode cX7_popped 78 = .ok (.ireturn, 1) := by decide +kernel
theorem dX7_endless_0 : decode cX7_endless 0 = .ok (.aload_n 0, 1) := by decide +kernel
theorem dX7_endless_1 : decode cX7_endless 1 = .ok (.iconst (-1), 1) := by decide +kernel
theorem dX7_endless_2 : decode cX7_endless 2 = .ok (.invokevirtual 158, 3) := by decide +kernel
theorem dX7_endless_5 : decode cX7_endless 5 = .ok (.aload_n 0, 1) := by decide +kernel
theorem dX7_endless_6 : decode cX7_endless 6 = .ok (.invokevirtual 174, 3) := by decide +kernel
theorem dX7_endless_9 : decode cX7_endless 9 = .ok (.iconst 1, 1) := by decide +kernel
theorem dX7_endless_10 : decode cX7_endless 10 = .ok (.aload_n 0, 1) := by decide +kernel
theorem dX7_endless_11 : decode cX7_endless 11 = .ok (.getfield 82, 3) := by decide +kernel
theorem dX7_endless_14 : decode cX7_endless 14 = .ok (.ishl, 1) := by decide +kernel
theorem dX7_endless_15 : decode cX7_endless 15 = .ok (.istore_n 1, 1) := by decide +kernel
theorem dX7_endless_16 : decode cX7_endless 16 = .ok (.iconst 0, 1) := by decide +kernel
theorem dX7_endless_17 : decode cX7_endless 17 = .ok (.istore_n 2, 1) := by decide +kernel
theorem dX7_endless_18 : decode cX7_endless 18 = .ok (.aload_n 0, 1) := by decide +kernel
theorem dX7_endless_19 : decode cX7_endless 19 = .ok (.getfield 85, 3) := by decide +kernel
theorem dX7_endless_22 : decode cX7_endless 22 = .ok (.iconst 1, 1) := by decide +kernel
theorem dX7_endless_23 : decode cX7_endless 23 = .ok (.isub, 1) := by decide +kernel
theorem dX7_endless_24 : decode cX7_endless 24 = .ok (.istore_n 3, 1) := by decide +kernel
theorem dX7_endless_25 : decode cX7_endless 25 = .ok (.iload_n 3, 1) := by decide +kernel
theorem dX7_endless_26 : decode cX7_endless 26 = .ok (.ifCond .lt 77, 3) := by decide +kernel
theorem dX7_endless_29 : decode cX7_endless 29 = .ok (.iconst 0, 1) := by decide +kernel
theorem dX7_endless_30 : decode cX7_endless 30 = .ok (.istore 4, 2) := by decide +kernel
theorem dX7_endless_32 : decode cX7_endless 32 = .ok (.iload 4, 2) := by decide +kernel
theorem dX7_endless_34 : decode cX7_endless 34 = .ok (.aload_n 0, 1) := by decide +kernel
theorem dX7_endless_35 : decode cX7_endless 35 = .ok (.getfield 7, 3) := by decide +kernel
theorem dX7_endless_38 : decode cX7_endless 38 = .ok (.if_icmp .ge 47, 3) := by decide +kernel
theorem dX7_endless_41 : decode cX7_endless 41 = .ok (.iload_n 2, 1) := by decide +kernel
theorem dX7_endless_42 : decode cX7_endless 42 = .ok (.ifCond .ne 31, 3) := by decide +kernel
theorem dX7_endless_45 : decode cX7_endless 45 = .ok (.iload_n 1, 1) := by decide +kernel
theorem dX7_endless_46 : decode cX7_endless 46 = .ok (.iload 4, 2) := by decide +kernel
theorem dX7_endless_48 : decode cX7_endless 48 = .ok (.ishr, 1) := by decide +kernel
theorem dX7_endless_49 : decode cX7_endless 49 = .ok (.iconst 1, 1) := by decide +kernel
theorem dX7_endless_50 : decode cX7_endless 50 = .ok (.iand, 1) := by decide +kernel
theorem dX7_endless_51 : decode cX7_endless 51 = .ok (.iconst 1, 1) := by decide +kernel
theorem dX7_endless_52 : decode cX7_endless 52 = .ok (.if_icmp .ne 25, 3) := by decide +kernel
theorem dX7_endless_55 : decode cX7_endless 55 = .ok (.aload_n 0, 1) := by decide +kernel
theorem dX7_endless_56 : decode cX7_endless 56 = .ok (.iconst 5, 1) := by decide +kernel
theorem dX7_endless_57 : decode cX7_endless 57 = .ok (.iload 4, 2) := by decide +kernel
theorem dX7_endless_59 : decode cX7_endless 59 = .ok (.imul, 1) := by decide +kernel
theorem dX7_endless_60 : decode cX7_endless 60 = .ok (.aload_n 0, 1) := by decide +kernel
theorem dX7_endless_61 : decode cX7_endless 61 = .ok (.getfield 32, 3) := by decide +kernel
theorem dX7_endless_64 : decode cX7_endless 64 = .ok (.iload_n 3, 1) := by decide +kernel
theorem dX7_endless_65 : decode cX7_endless 65 = .ok (.iaload, 1) := by decide +kernel
theorem dX7_endless_66 : decode cX7_endless 66 = .ok (.iadd, 1) := by decide +kernel
theorem dX7_endless_67 : decode cX7_endless 67 = .ok (.invokevirtual 177, 3) := by decide +kernel
theorem dX7_endless_70 : decode cX7_endless 70 = .ok (.ifCond .eq 7, 3) := by decide +kernel
theorem dX7_endless_73 : decode cX7_endless 73 = .ok (.iconst 1, 1) := by decide +kernel
theorem dX7_endless_74 : decode cX7_endless 74 = .ok (.goto 4, 3) := by decide +kernel
theorem dX7_endless_77 : decode cX7_endless 77 = .ok (.iconst 0, 1) := by decide +kernel
theorem dX7_endless_78 : decode cX7_endless 78 = .ok (.istore_n 2, 1) := by decide +kernel
theorem dX7_endless_79 : decode cX7_endless 79 = .ok (.iinc 4 1, 3) := by decide +kernel
theorem dX7_endless_82 : decode cX7_endless 82 = .ok (.goto (-50), 3) := by decide +kernel
theorem dX7_endless_85 : decode cX7_endless 85 = .ok (.aload_n 0, 1) := by decide +kernel
theorem dX7_endless_86 : decode cX7_endless 86 = .ok (.iload_n 1, 1) := by decide +kernel
theorem dX7_endless_87 : decode cX7_endless 87 = .ok (.aload_n 0, 1) := by decide +kernel
theorem dX7_endless_88 : decode cX7_endless 88 = .ok (.getfield 32, 3) := by decide +kernel
theorem dX7_endless_91 : decode cX7_endless 91 = .ok (.iload_n 3, 1) := by decide +kernel
theorem dX7_endless_92 : decode cX7_endless 92 = .ok (.iaload, 1) := by decide +kernel
theorem dX7_endless_93 : decode cX7_endless 93 = .ok (.invokevirtual 180, 3) := by decide +kernel
theorem dX7_endless_96 : decode cX7_endless 96 = .ok (.istore_n 1, 1) := by decide +kernel
theorem dX7_endless_97 : decode cX7_endless 97 = .ok (.iinc 3 (-1), 3) := by decide +kernel
theorem dX7_endless_100 : decode cX7_endless 100 = .ok (.goto (-75), 3) := by decide +kernel
theorem dX7_endless_103 : decode cX7_endless 103 = .ok (.iload_n 2, 1) := by decide +kernel
theorem dX7_endless_104 : decode cX7_endless 104 = .ok (.ifCond .eq 7, 3) := by decide +kernel
theorem dX7_endless_107 : decode cX7_endless 107 = .ok (.iconst 1, 1) := by decide +kernel
theorem dX7_endless_108 : decode cX7_endless 108 = .ok (.goto 4, 3) := by decide +kernel
theorem dX7_endless_111 : decode cX7_endless 111 = .ok (.iconst 0, 1) := by decide +kernel
theorem dX7_endless_112 : decode cX7_endless 112 = .ok (.ireturn, 1) := by decide +kernel
theorem dX7_findHigh_0 : decode cX7_findHigh 0 = .ok (.iconst 0, 1) := by decide +kernel
theorem dX7_findHigh_1 : decode cX7_findHigh 1 = .ok (.istore_n 1, 1) := by decide +kernel
theorem dX7_findHigh_2 : decode cX7_findHigh 2 = .ok (.iload_n 1, 1) := by decide +kernel
theorem dX7_findHigh_3 : decode cX7_findHigh 3 = .ok (.bipush 25, 2) := by decide +kernel
theorem dX7_findHigh_5 : decode cX7_findHigh 5 = .ok (.if_icmp .ge 16, 3) := by decide +kernel
theorem dX7_findHigh_8 : decode cX7_findHigh 8 = .ok (.aload_n 0, 1) := by decide +kernel
theorem dX7_findHigh_9 : decode cX7_findHigh 9 = .ok (.getfield 70, 3) := by decide +kernel
theorem dX7_findHigh_12 : decode cX7_findHigh 12 = .ok (.iload_n 1, 1) := by decide +kernel
theorem dX7_findHigh_13 : decode cX7_findHigh 13 = .ok (.iconst 1, 1) := by decide +kernel
theorem dX7_findHigh_14 : decode cX7_findHigh 14 = .ok (.iastore, 1) := by decide +kernel
theorem dX7_findHigh_15 : decode cX7_findHigh 15 = .ok (.iinc 1 1, 3) := by decide +kernel
theorem dX7_findHigh_18 : decode cX7_findHigh 18 = .ok (.goto (-16), 3) := by decide +kernel
theorem dX7_findHigh_21 : decode cX7_findHigh 21 = .ok (.iconst 0, 1) := by decide +kernel
theorem dX7_findHigh_22 : decode cX7_findHigh 22 = .ok (.istore_n 1, 1) := by decide +kernel
theorem dX7_findHigh_23 : decode cX7_findHigh 23 = .ok (.iload_n 1, 1) := by decide +kernel
theorem dX7_findHigh_24 : decode cX7_findHigh 24 = .ok (.sipush 1000, 3) := by decide +kernel
theorem dX7_findHigh_27 : decode cX7_findHigh 27 = .ok (.if_icmp .ge 189, 3) := by decide +kernel
theorem dX7_findHigh_30 : decode cX7_findHigh 30 = .ok (.iconst 0, 1) := by decide +kernel
theorem dX7_findHigh_31 : decode cX7_findHigh 31 = .ok (.istore_n 2, 1) := by decide +kernel
theorem dX7_findHigh_32 : decode cX7_findHigh 32 = .ok (.iload_n 2, 1) := by decide +kernel
theorem dX7_findHigh_33 : decode cX7_findHigh 33 = .ok (.aload_n 0, 1) := by decide +kernel
theorem dX7_findHigh_34 : decode cX7_findHigh 34 = .ok (.getfield 79, 3) := by decide +kernel
theorem dX7_findHigh_37 : decode cX7_findHigh 37 = .ok (.if_icmp .ge 173, 3) := by decide +kernel
theorem dX7_findHigh_40 : decode cX7_findHigh 40 = .ok (.iconst 5, 1) := by decide +kernel
theorem dX7_findHigh_41 : decode cX7_findHigh 41 = .ok (.aload_n 0, 1) := by decide +kernel
theorem dX7_findHigh_42 : decode cX7_findHigh 42 = .ok (.getfield 16, 3) := by decide +kernel
theorem dX7_findHigh_45 : decode cX7_findHigh 45 = .ok (.iload_n 2, 1) := by decide +kernel
theorem dX7_findHigh_46 : decode cX7_findHigh 46 = .ok (.iaload, 1) := by decide +kernel
theorem dX7_findHigh_47 : decode cX7_findHigh 47 = .ok (.imul, 1) := by decide +kernel
theorem dX7_findHigh_48 : decode cX7_findHigh 48 = .ok (.aload_n 0, 1) := by decide +kernel
theorem dX7_findHigh_49 : decode cX7_findHigh 49 = .ok (.getfield 20, 3) := by decide +kernel
theorem dX7_findHigh_52 : decode cX7_findHigh 52 = .ok (.iload_n 2, 1) := by decide +kernel
theorem dX7_findHigh_53 : decode cX7_findHigh 53 = .ok (.iaload, 1) := by decide +kernel
theorem dX7_findHigh_54 : decode cX7_findHigh 54 = .ok (.iadd, 1) := by decide +kernel
theorem dX7_findHigh_55 : decode cX7_findHigh 55 = .ok (.istore_n 3, 1) := by decide +kernel
theorem dX7_findHigh_56 : decode cX7_findHigh 56 = .ok (.aload_n 0, 1) := by decide +kernel
theorem dX7_findHigh_57 : decode cX7_findHigh 57 = .ok (.iload_n 2, 1) := by decide +kernel
theorem dX7_findHigh_58 : decode cX7_findHigh 58 = .ok (.invokevirtual 171, 3) := by decide +kernel
theorem dX7_findHigh_61 : decode cX7_findHigh 61 = .ok (.istore 4, 2) := by decide +kernel
theorem dX7_findHigh_63 : decode cX7_findHigh 63 = .ok (.aload_n 0, 1) := by decide +kernel
theorem dX7_findHigh_64 : decode cX7_findHigh 64 = .ok (.iload_n 2, 1) := by decide +kernel
theorem dX7_findHigh_65 : decode cX7_findHigh 65 = .ok (.invokevirtual 98, 3) := by decide +kernel
theorem dX7_findHigh_68 : decode cX7_findHigh 68 = .ok (.ifCond .le 21, 3) := by decide +kernel
theorem dX7_findHigh_71 : decode cX7_findHigh 71 = .ok (.iconst 5, 1) := by decide +kernel
theorem dX7_findHigh_72 : decode cX7_findHigh 72 = .ok (.aload_n 0, 1) := by decide +kernel
theorem dX7_findHigh_73 : decode cX7_findHigh 73 = .ok (.getfield 23, 3) := by decide +kernel
theorem dX7_findHigh_76 : decode cX7_findHigh 76 = .ok (.iload_n 2, 1) := by decide +kernel
theorem dX7_findHigh_77 : decode cX7_findHigh 77 = .ok (.iaload, 1) := by decide +kernel
theorem dX7_findHigh_78 : decode cX7_findHigh 78 = .ok (.imul, 1) := by decide +kernel
theorem dX7_findHigh_79 : decode cX7_findHigh 79 = .ok (.aload_n 0, 1) := by decide +kernel
theorem dX7_findHigh_80 : decode cX7_findHigh 80 = .ok (.getfield 26, 3) := by decide +kernel
theorem dX7_findHigh_83 : decode cX7_findHigh 83 = .ok (.iload_n 2, 1) := by decide +kernel
theorem dX7_findHigh_84 : decode cX7_findHigh 84 = .ok (.iaload, 1) := by decide +kernel
theorem dX7_findHigh_85 : decode cX7_findHigh 85 = .ok (.iadd, 1) := by decide +kernel
theorem dX7_findHigh_86 : decode cX7_findHigh 86 = .ok (.goto 4, 3) := by decide +kernel
theorem dX7_findHigh_89 : decode cX7_findHigh 89 = .ok (.iconst (-1), 1) := by decide +kernel
theorem dX7_findHigh_90 : decode cX7_findHigh 90 = .ok (.istore 5, 2) := by decide +kernel
theorem dX7_findHigh_92 : decode cX7_findHigh 92 = .ok (.aload_n 0, 1) := by decide +kernel
theorem dX7_findHigh_93 : decode cX7_findHigh 93 = .ok (.getfield 70, 3) := by decide +kernel
theorem dX7_findHigh_96 : decode cX7_findHigh 96 = .ok (.iload_n 3, 1) := by decide +kernel
theorem dX7_findHigh_97 : decode cX7_findHigh 97 = .ok (.iaload, 1) := by decide +kernel
theorem dX7_findHigh_98 : decode cX7_findHigh 98 = .ok (.istore 6, 2) := by decide +kernel
theorem dX7_findHigh_100 : decode cX7_findHigh 100 = .ok (.iconst 0, 1) := by decide +kernel
theorem dX7_findHigh_101 : decode cX7_findHigh 101 = .ok (.istore 7, 2) := by decide +kernel
theorem dX7_findHigh_103 : decode cX7_findHigh 103 = .ok (.iload 7, 2) := by decide +kernel
theorem dX7_findHigh_105 : decode cX7_findHigh 105 = .ok (.bipush 25, 2) := by decide +kernel
theorem dX7_findHigh_107 : decode cX7_findHigh 107 = .ok (.if_icmp .ge 75, 3) := by decide +kernel
theorem dX7_findHigh_110 : decode cX7_findHigh 110 = .ok (.iload 4, 2) := by decide +kernel
theorem dX7_findHigh_112 : decode cX7_findHigh 112 = .ok (.iload 7, 2) := by decide +kernel
theorem dX7_findHigh_114 : decode cX7_findHigh 114 = .ok (.ishr, 1) := by decide +kernel
theorem dX7_findHigh_115 : decode cX7_findHigh 115 = .ok (.iconst 1, 1) := by decide +kernel
theorem dX7_findHigh_116 : decode cX7_findHigh 116 = .ok (.iand, 1) := by decide +kernel
theorem dX7_findHigh_117 : decode cX7_findHigh 117 = .ok (.iconst 1, 1) := by decide +kernel
theorem dX7_findHigh_118 : decode cX7_findHigh 118 = .ok (.if_icmp .ne 13, 3) := by decide +kernel
theorem dX7_findHigh_121 : decode cX7_findHigh 121 = .ok (.aload_n 0, 1) := by decide +kernel
theorem dX7_findHigh_122 : decode cX7_findHigh 122 = .ok (.getfield 70, 3) := by decide +kernel
theorem dX7_findHigh_125 : decode cX7_findHigh 125 = .ok (.iload 7, 2) := by decide +kernel
theorem dX7_findHigh_127 : decode cX7_findHigh 127 = .ok (.iaload, 1) := by decide +kernel
theorem dX7_findHigh_128 : decode cX7_findHigh 128 = .ok (.goto 4, 3) := by decide +kernel
theorem dX7_findHigh_131 : decode cX7_findHigh 131 = .ok (.iconst 0, 1) := by decide +kernel
theorem dX7_findHigh_132 : decode cX7_findHigh 132 = .ok (.istore 8, 2) := by decide +kernel
theorem dX7_findHigh_134 : decode cX7_findHigh 134 = .ok (.iload 8, 2) := by decide +kernel
theorem dX7_findHigh_136 : decode cX7_findHigh 136 = .ok (.iload 7, 2) := by decide +kernel
theorem dX7_findHigh_138 : decode cX7_findHigh 138 = .ok (.iload 5, 2) := by decide +kernel
theorem dX7_findHigh_140 : decode cX7_findHigh 140 = .ok (.if_icmp .ne 16, 3) := by decide +kernel
theorem dX7_findHigh_143 : decode cX7_findHigh 143 = .ok (.aload_n 0, 1) := by decide +kernel
theorem dX7_findHigh_144 : decode cX7_findHigh 144 = .ok (.iload_n 2, 1) := by decide +kernel
theorem dX7_findHigh_145 : decode cX7_findHigh 145 = .ok (.invokevirtual 98, 3) := by decide +kernel
theorem dX7_findHigh_148 : decode cX7_findHigh 148 = .ok (.iconst 2, 1) := by decide +kernel
theorem dX7_findHigh_149 : decode cX7_findHigh 149 = .ok (.if_icmp .ne 7, 3) := by decide +kernel
theorem dX7_findHigh_152 : decode cX7_findHigh 152 = .ok (.iconst 1, 1) := by decide +kernel
theorem dX7_findHigh_153 : decode cX7_findHigh 153 = .ok (.goto 4, 3) := by decide +kernel
theorem dX7_findHigh_156 : decode cX7_findHigh 156 = .ok (.iconst 0, 1) := by decide +kernel
theorem dX7_findHigh_157 : decode cX7_findHigh 157 = .ok (.iadd, 1) := by decide +kernel
theorem dX7_findHigh_158 : decode cX7_findHigh 158 = .ok (.istore 8, 2) := by decide +kernel
theorem dX7_findHigh_160 : decode cX7_findHigh 160 = .ok (.iload 8, 2) := by decide +kernel
theorem dX7_findHigh_162 : decode cX7_findHigh 162 = .ok (.iload 6, 2) := by decide +kernel
theorem dX7_findHigh_164 : decode cX7_findHigh 164 = .ok (.if_icmp .le 8, 3) := by decide +kernel
theorem dX7_findHigh_167 : decode cX7_findHigh 167 = .ok (.iload 8, 2) := by decide +kernel
theorem dX7_findHigh_169 : decode cX7_findHigh 169 = .ok (.goto 5, 3) := by decide +kernel
theorem dX7_findHigh_172 : decode cX7_findHigh 172 = .ok (.iload 6, 2) := by decide +kernel
theorem dX7_findHigh_174 : decode cX7_findHigh 174 = .ok (.istore 6, 2) := by decide +kernel
theorem dX7_findHigh_176 : decode cX7_findHigh 176 = .ok (.iinc 7 1, 3) := by decide +kernel
theorem dX7_findHigh_179 : decode cX7_findHigh 179 = .ok (.goto (-76), 3) := by decide +kernel
theorem dX7_findHigh_182 : decode cX7_findHigh 182 = .ok (.aload_n 0, 1) := by decide +kernel
theorem dX7_findHigh_183 : decode cX7_findHigh 183 = .ok (.getfield 70, 3) := by decide +kernel
theorem dX7_findHigh_186 : decode cX7_findHigh 186 = .ok (.iload_n 3, 1) := by decide +kernel
theorem dX7_findHigh_187 : decode cX7_findHigh 187 = .ok (.iload 6, 2) := by decide +kernel
theorem dX7_findHigh_189 : decode cX7_findHigh 189 = .ok (.sipush 1000, 3) := by decide +kernel
theorem dX7_findHigh_192 : decode cX7_findHigh 192 = .ok (.if_icmp .ge 8, 3) := by decide +kernel
theorem dX7_findHigh_195 : decode cX7_findHigh 195 = .ok (.iload 6, 2) := by decide +kernel
theorem dX7_findHigh_197 : decode cX7_findHigh 197 = .ok (.goto 6, 3) := by decide +kernel
theorem dX7_findHigh_200 : decode cX7_findHigh 200 = .ok (.sipush 1000, 3) := by decide +kernel
theorem dX7_findHigh_203 : decode cX7_findHigh 203 = .ok (.iastore, 1) := by decide +kernel
theorem dX7_findHigh_204 : decode cX7_findHigh 204 = .ok (.iinc 2 1, 3) := by decide +kernel
theorem dX7_findHigh_207 : decode cX7_findHigh 207 = .ok (.goto (-175), 3) := by decide +kernel
theorem dX7_findHigh_210 : decode cX7_findHigh 210 = .ok (.iinc 1 1, 3) := by decide +kernel
theorem dX7_findHigh_213 : decode cX7_findHigh 213 = .ok (.goto (-190), 3) := by decide +kernel
theorem dX7_findHigh_216 : decode cX7_findHigh 216 = .ok (.return_, 1) := by decide +kernel
theorem dX7_high_0 : decode cX7_high 0 = .ok (.aload_n 0, 1) := by decide +kernel
theorem dX7_high_1 : decode cX7_high 1 = .ok (.iconst (-1), 1) := by decide +kernel
theorem dX7_high_2 : decode cX7_high 2 = .ok (.invokevirtual 158, 3) := by decide +kernel
theorem dX7_high_5 : decode cX7_high 5 = .ok (.aload_n 0, 1) := by decide +kernel
theorem dX7_high_6 : decode cX7_high 6 = .ok (.invokevirtual 184, 3) := by decide +kernel
theorem dX7_high_9 : decode cX7_high 9 = .ok (.iconst 1, 1) := by decide +kernel
theorem dX7_high_10 : decode cX7_high 10 = .ok (.aload_n 0, 1) := by decide +kernel
theorem dX7_high_11 : decode cX7_high 11 = .ok (.getfield 82, 3) := by decide +kernel
theorem dX7_high_14 : decode cX7_high 14 = .ok (.ishl, 1) := by decide +kernel
theorem dX7_high_15 : decode cX7_high 15 = .ok (.istore_n 1, 1) := by decide +kernel
theorem dX7_high_16 : decode cX7_high 16 = .ok (.aload_n 0, 1) := by decide +kernel
theorem dX7_high_17 : decode cX7_high 17 = .ok (.getfield 85, 3) := by decide +kernel
theorem dX7_high_20 : decode cX7_high 20 = .ok (.istore_n 2, 1) := by decide +kernel
theorem dX7_high_21 : decode cX7_high 21 = .ok (.aload_n 0, 1) := by decide +kernel
theorem dX7_high_22 : decode cX7_high 22 = .ok (.getfield 85, 3) := by decide +kernel
theorem dX7_high_25 : decode cX7_high 25 = .ok (.iconst 1, 1) := by decide +kernel
theorem dX7_high_26 : decode cX7_high 26 = .ok (.isub, 1) := by decide +kernel
theorem dX7_high_27 : decode cX7_high 27 = .ok (.istore_n 3, 1) := by decide +kernel
theorem dX7_high_28 : decode cX7_high 28 = .ok (.iload_n 3, 1) := by decide +kernel
theorem dX7_high_29 : decode cX7_high 29 = .ok (.ifCond .lt 93, 3) := by decide +kernel
theorem dX7_high_32 : decode cX7_high 32 = .ok (.iconst 0, 1) := by decide +kernel
theorem dX7_high_33 : decode cX7_high 33 = .ok (.istore 4, 2) := by decide +kernel
theorem dX7_high_35 : decode cX7_high 35 = .ok (.iload 4, 2) := by decide +kernel
theorem dX7_high_37 : decode cX7_high 37 = .ok (.aload_n 0, 1) := by decide +kernel
theorem dX7_high_38 : decode cX7_high 38 = .ok (.getfield 7, 3) := by decide +kernel
theorem dX7_high_41 : decode cX7_high 41 = .ok (.if_icmp .ge 63, 3) := by decide +kernel
theorem dX7_high_44 : decode cX7_high 44 = .ok (.iload_n 1, 1) := by decide +kernel
theorem dX7_high_45 : decode cX7_high 45 = .ok (.iload 4, 2) := by decide +kernel
theorem dX7_high_47 : decode cX7_high 47 = .ok (.ishr, 1) := by decide +kernel
theorem dX7_high_48 : decode cX7_high 48 = .ok (.iconst 1, 1) := by decide +kernel
theorem dX7_high_49 : decode cX7_high 49 = .ok (.iand, 1) := by decide +kernel
theorem dX7_high_50 : decode cX7_high 50 = .ok (.iconst 1, 1) := by decide +kernel
theorem dX7_high_51 : decode cX7_high 51 = .ok (.if_icmp .ne 47, 3) := by decide +kernel
theorem dX7_high_54 : decode cX7_high 54 = .ok (.aload_n 0, 1) := by decide +kernel
theorem dX7_high_55 : decode cX7_high 55 = .ok (.getfield 70, 3) := by decide +kernel
theorem dX7_high_58 : decode cX7_high 58 = .ok (.iconst 5, 1) := by decide +kernel
theorem dX7_high_59 : decode cX7_high 59 = .ok (.iload 4, 2) := by decide +kernel
theorem dX7_high_61 : decode cX7_high 61 = .ok (.imul, 1) := by decide +kernel
theorem dX7_high_62 : decode cX7_high 62 = .ok (.aload_n 0, 1) := by decide +kernel
theorem dX7_high_63 : decode cX7_high 63 = .ok (.getfield 32, 3) := by decide +kernel
theorem dX7_high_66 : decode cX7_high 66 = .ok (.iload_n 3, 1) := by decide +kernel
theorem dX7_high_67 : decode cX7_high 67 = .ok (.iaload, 1) := by decide +kernel
theorem dX7_high_68 : decode cX7_high 68 = .ok (.iadd, 1) := by decide +kernel
theorem dX7_high_69 : decode cX7_high 69 = .ok (.iaload, 1) := by decide +kernel
theorem dX7_high_70 : decode cX7_high 70 = .ok (.istore 5, 2) := by decide +kernel
theorem dX7_high_72 : decode cX7_high 72 = .ok (.iload 5, 2) := by decide +kernel
theorem dX7_high_74 : decode cX7_high 74 = .ok (.bipush 26, 2) := by decide +kernel
theorem dX7_high_76 : decode cX7_high 76 = .ok (.if_icmp .le 5, 3) := by decide +kernel
theorem dX7_high_79 : decode cX7_high 79 = .ok (.iconst (-1), 1) := by decide +kernel
theorem dX7_high_80 : decode cX7_high 80 = .ok (.ireturn, 1) := by decide +kernel
theorem dX7_high_81 : decode cX7_high 81 = .ok (.iload_n 3, 1) := by decide +kernel
theorem dX7_high_82 : decode cX7_high 82 = .ok (.iload 5, 2) := by decide +kernel
theorem dX7_high_84 : decode cX7_high 84 = .ok (.iadd, 1) := by decide +kernel
theorem dX7_high_85 : decode cX7_high 85 = .ok (.iload_n 2, 1) := by decide +kernel
theorem dX7_high_86 : decode cX7_high 86 = .ok (.if_icmp .le 10, 3) := by decide +kernel
theorem dX7_high_89 : decode cX7_high 89 = .ok (.iload_n 3, 1) := by decide +kernel
theorem dX7_high_90 : decode cX7_high 90 = .ok (.iload 5, 2) := by decide +kernel
theorem dX7_high_92 : decode cX7_high 92 = .ok (.iadd, 1) := by decide +kernel
theorem dX7_high_93 : decode cX7_high 93 = .ok (.goto 4, 3) := by decide +kernel
theorem dX7_high_96 : decode cX7_high 96 = .ok (.iload_n 2, 1) := by decide +kernel
theorem dX7_high_97 : decode cX7_high 97 = .ok (.istore_n 2, 1) := by decide +kernel
theorem dX7_high_98 : decode cX7_high 98 = .ok (.iinc 4 1, 3) := by decide +kernel
theorem dX7_high_101 : decode cX7_high 101 = .ok (.goto (-66), 3) := by decide +kernel
theorem dX7_high_104 : decode cX7_high 104 = .ok (.aload_n 0, 1) := by decide +kernel
theorem dX7_high_105 : decode cX7_high 105 = .ok (.iload_n 1, 1) := by decide +kernel
theorem dX7_high_106 : decode cX7_high 106 = .ok (.aload_n 0, 1) := by decide +kernel
theorem dX7_high_107 : decode cX7_high 107 = .ok (.getfield 32, 3) := by decide +kernel
theorem dX7_high_110 : decode cX7_high 110 = .ok (.iload_n 3, 1) := by decide +kernel
theorem dX7_high_111 : decode cX7_high 111 = .ok (.iaload, 1) := by decide +kernel
theorem dX7_high_112 : decode cX7_high 112 = .ok (.invokevirtual 180, 3) := by decide +kernel
theorem dX7_high_115 : decode cX7_high 115 = .ok (.istore_n 1, 1) := by decide +kernel
theorem dX7_high_116 : decode cX7_high 116 = .ok (.iinc 3 (-1), 3) := by decide +kernel
theorem dX7_high_119 : decode cX7_high 119 = .ok (.goto (-91), 3) := by decide +kernel
theorem dX7_high_122 : decode cX7_high 122 = .ok (.iload_n 2, 1) := by decide +kernel
theorem dX7_high_123 : decode cX7_high 123 = .ok (.ireturn, 1) := by decide +kernel
theorem dX7_count_0 : decode cX7_count 0 = .ok (.iload_n 1, 1) := by decide +kernel
theorem dX7_count_1 : decode cX7_count 1 = .ok (.tableswitch 100 0 5 #[39, 44, 49, 54, 59, 64], 39) := by decide +kernel
theorem dX7_count_40 : decode cX7_count 40 = .ok (.aload_n 0, 1) := by decide +kernel
theorem dX7_count_41 : decode cX7_count 41 = .ok (.getfield 7, 3) := by decide +kernel
theorem dX7_count_44 : decode cX7_count 44 = .ok (.ireturn, 1) := by decide +kernel
theorem dX7_count_45 : decode cX7_count 45 = .ok (.aload_n 0, 1) := by decide +kernel
theorem dX7_count_46 : decode cX7_count 46 = .ok (.getfield 13, 3) := by decide +kernel
theorem dX7_count_49 : decode cX7_count 49 = .ok (.ireturn, 1) := by decide +kernel
theorem dX7_count_50 : decode cX7_count 50 = .ok (.aload_n 0, 1) := by decide +kernel
theorem dX7_count_51 : decode cX7_count 51 = .ok (.getfield 79, 3) := by decide +kernel
theorem dX7_count_54 : decode cX7_count 54 = .ok (.ireturn, 1) := by decide +kernel
theorem dX7_count_55 : decode cX7_count 55 = .ok (.aload_n 0, 1) := by decide +kernel
theorem dX7_count_56 : decode cX7_count 56 = .ok (.getfield 88, 3) := by decide +kernel
theorem dX7_count_59 : decode cX7_count 59 = .ok (.ireturn, 1) := by decide +kernel
theorem dX7_count_60 : decode cX7_count 60 = .ok (.aload_n 0, 1) := by decide +kernel
theorem dX7_count_61 : decode cX7_count 61 = .ok (.getfield 85, 3) := by decide +kernel
theorem dX7_count_64 : decode cX7_count 64 = .ok (.ireturn, 1) := by decide +kernel
theorem dX7_count_65 : decode cX7_count 65 = .ok (.iconst 0, 1) := by decide +kernel
theorem dX7_count_66 : decode cX7_count 66 = .ok (.istore_n 2, 1) := by decide +kernel
theorem dX7_count_67 : decode cX7_count 67 = .ok (.iconst 0, 1) := by decide +kernel
theorem dX7_count_68 : decode cX7_count 68 = .ok (.istore_n 3, 1) := by decide +kernel
theorem dX7_count_69 : decode cX7_count 69 = .ok (.iload_n 3, 1) := by decide +kernel
theorem dX7_count_70 : decode cX7_count 70 = .ok (.aload_n 0, 1) := by decide +kernel
theorem dX7_count_71 : decode cX7_count 71 = .ok (.getfield 79, 3) := by decide +kernel
theorem dX7_count_74 : decode cX7_count 74 = .ok (.if_icmp .ge 25, 3) := by decide +kernel
theorem dX7_count_77 : decode cX7_count 77 = .ok (.iload_n 2, 1) := by decide +kernel
theorem dX7_count_78 : decode cX7_count 78 = .ok (.aload_n 0, 1) := by decide +kernel
theorem dX7_count_79 : decode cX7_count 79 = .ok (.iload_n 3, 1) := by decide +kernel
theorem dX7_count_80 : decode cX7_count 80 = .ok (.invokevirtual 102, 3) := by decide +kernel
theorem dX7_count_83 : decode cX7_count 83 = .ok (.ifCond .eq 7, 3) := by decide +kernel
theorem dX7_count_86 : decode cX7_count 86 = .ok (.iconst 1, 1) := by decide +kernel
theorem dX7_count_87 : decode cX7_count 87 = .ok (.goto 4, 3) := by decide +kernel
theorem dX7_count_90 : decode cX7_count 90 = .ok (.iconst 0, 1) := by decide +kernel
theorem dX7_count_91 : decode cX7_count 91 = .ok (.iadd, 1) := by decide +kernel
theorem dX7_count_92 : decode cX7_count 92 = .ok (.istore_n 2, 1) := by decide +kernel
theorem dX7_count_93 : decode cX7_count 93 = .ok (.iinc 3 1, 3) := by decide +kernel
theorem dX7_count_96 : decode cX7_count 96 = .ok (.goto (-27), 3) := by decide +kernel
theorem dX7_count_99 : decode cX7_count 99 = .ok (.iload_n 2, 1) := by decide +kernel
theorem dX7_count_100 : decode cX7_count 100 = .ok (.ireturn, 1) := by decide +kernel
theorem dX7_count_101 : decode cX7_count 101 = .ok (.bipush (-2), 2) := by decide +kernel
theorem dX7_count_103 : decode cX7_count 103 = .ok (.ireturn, 1) := by decide +kernel
end
section
set_option maxRecDepth 20000 in
theorem ggX0_renew_X0_findExits : GoodIn wsX0_renew wsX0_findExits := goodIn_r _ [6, 7, 8, 50, 51, 52, 53, 54, 55, 64, 65] rfl (by decide +kernel)
set_option maxRecDepth 20000 in
theorem gX0_renew_X0_findExits : GoodIn wsX0_renew (wsV RX0 36 RX0 yX0_findExits wsX0_findExits) := goodIn_app (goodIn_of _ (by decide +kernel)) ggX0_renew_X0_findExits
set_option maxRecDepth 20000 in
theorem ggX0_renew_X0_findAhead : GoodIn wsX0_renew wsX0_findAhead := goodIn_r _ [12, 13, 14, 15, 16, 17, 18, 19, 20, 21, 22, 23, 5, 24, 7, 25, 26, 50, 51, 52, 53, 54, 55, 56, 57, 58, 59, 60, 61, 62, 63] rfl (by decide +kernel)
set_option maxRecDepth 20000 in
theorem gX0_renew_X0_findAhead : GoodIn wsX0_renew (wsV RX0 40 RX0 yX0_findAhead wsX0_findAhead) := goodIn_app (goodIn_of _ (by decide +kernel)) ggX0_renew_X0_findAhead
set_option maxRecDepth 20000 in
theorem ggX0_renew_X0_findCircles : GoodIn wsX0_renew wsX0_findCircles := goodIn_r _ [30, 13, 31, 32, 18, 19, 20, 33, 34, 35, 5, 36, 50, 51, 52, 53, 54, 55, 56, 57, 58, 59, 60, 61, 62, 63] rfl (by decide +kernel)
set_option maxRecDepth 20000 in
theorem gX0_renew_X0_findCircles : GoodIn wsX0_renew (wsV RX0 44 RX0 yX0_findCircles wsX0_findCircles) := goodIn_app (goodIn_of _ (by decide +kernel)) ggX0_renew_X0_findCircles
set_option maxRecDepth 20000 in
theorem ggX0_renew_X0_findTallest : GoodIn wsX0_renew wsX0_findTallest := goodIn_r _ [40, 41, 32, 14, 15, 16, 17, 25, 19, 26, 42, 43, 44, 5, 45, 46, 47, 48, 49, 18, 20, 21, 22, 23, 24, 7, 50, 51, 52, 53, 54, 55, 56, 57, 58, 59, 60, 61, 62, 63] rfl (by decide +kernel)
set_option maxRecDepth 20000 in
theorem gX0_renew_X0_findTallest : GoodIn wsX0_renew (wsV RX0 47 RX0 yX0_findTallest wsX0_findTallest) := goodIn_app (goodIn_of _ (by decide +kernel)) ggX0_renew_X0_findTallest
set_option maxRecDepth 20000 in
theorem ggX0_findAhead_J7_fill_53178 : GoodIn wsX0_findAhead wsJ7_fill_53178 := goodIn_r _ [5] rfl (by decide +kernel)
set_option maxRecDepth 20000 in
theorem gX0_findAhead_J7_fill_53178 : GoodIn wsX0_findAhead (va_wsS RX0 58 yJ7_fill_53178 wsJ7_fill_53178) := goodIn_app (goodIn_of _ (by decide +kernel)) ggX0_findAhead_J7_fill_53178
set_option maxRecDepth 20000 in
theorem ggX0_findAhead_X6_headOf : GoodIn wsX0_findAhead wsX6_headOf := goodIn_r _ [8] rfl (by decide +kernel)
set_option maxRecDepth 20000 in
theorem gX0_findAhead_X6_headOf_n76 : GoodIn wsX0_findAhead (wsX6_headOf) := ggX0_findAhead_X6_headOf
set_option maxRecDepth 20000 in
theorem ggX0_findAhead_X0_uncovered : GoodIn wsX0_findAhead wsX0_uncovered := goodIn_r _ [13, 14, 6, 7, 8, 15, 16, 23, 24, 25, 26, 27, 28, 29, 30, 17, 18, 19, 20, 21, 22] rfl (by decide +kernel)
set_option maxRecDepth 20000 in
theorem gX0_findAhead_X0_uncovered : GoodIn wsX0_findAhead (wsV RX0 80 RX0 yX0_uncovered wsX0_uncovered) := goodIn_app (goodIn_of _ (by decide +kernel)) ggX0_findAhead_X0_uncovered
set_option maxRecDepth 20000 in
theorem ggX0_findAhead_X6_hasBit : GoodIn wsX0_findAhead wsX6_hasBit := goodIn_r _ [16] rfl (by decide +kernel)
set_option maxRecDepth 20000 in
theorem gX0_findAhead_X6_hasBit_n84 : GoodIn wsX0_findAhead (wsX6_hasBit) := ggX0_findAhead_X6_hasBit
set_option maxRecDepth 20000 in
theorem ggX0_uncovered_X6_headOf : GoodIn wsX0_uncovered wsX6_headOf := goodIn_r _ [4] rfl (by decide +kernel)
set_option maxRecDepth 20000 in
theorem gX0_uncovered_X6_headOf_n76 : GoodIn wsX0_uncovered (wsX6_headOf) := ggX0_uncovered_X6_headOf
set_option maxRecDepth 20000 in
theorem ggX0_uncovered_X6_hasBit : GoodIn wsX0_uncovered wsX6_hasBit := goodIn_r _ [6] rfl (by decide +kernel)
set_option maxRecDepth 20000 in
theorem gX0_uncovered_X6_hasBit_n84 : GoodIn wsX0_uncovered (wsX6_hasBit) := ggX0_uncovered_X6_hasBit
set_option maxRecDepth 20000 in
theorem ggX0_findCircles_X6_headOf : GoodIn wsX0_findCircles wsX6_headOf := goodIn_r _ [6] rfl (by decide +kernel)
set_option maxRecDepth 20000 in
theorem gX0_findCircles_X6_headOf_n76 : GoodIn wsX0_findCircles (wsX6_headOf) := ggX0_findCircles_X6_headOf
set_option maxRecDepth 20000 in
theorem ggX0_findCircles_X0_leadingTo : GoodIn wsX0_findCircles wsX0_leadingTo := goodIn_r _ [11, 1, 12, 13, 14, 15, 16, 17] rfl (by decide +kernel)
set_option maxRecDepth 20000 in
theorem gX0_findCircles_X0_leadingTo : GoodIn wsX0_findCircles (wsV RX0 91 RX0 yX0_leadingTo wsX0_leadingTo) := goodIn_app (goodIn_of _ (by decide +kernel)) ggX0_findCircles_X0_leadingTo
set_option maxRecDepth 20000 in
theorem ggX0_findTallest_J7_fill_53178 : GoodIn wsX0_findTallest wsJ7_fill_53178 := goodIn_r _ [6] rfl (by decide +kernel)
set_option maxRecDepth 20000 in
theorem gX0_findTallest_J7_fill_53178 : GoodIn wsX0_findTallest (va_wsS RX0 58 yJ7_fill_53178 wsJ7_fill_53178) := goodIn_app (goodIn_of _ (by decide +kernel)) ggX0_findTallest_J7_fill_53178
set_option maxRecDepth 20000 in
theorem ggX0_findTallest_X6_hasBit : GoodIn wsX0_findTallest wsX6_hasBit := goodIn_r _ [9] rfl (by decide +kernel)
set_option maxRecDepth 20000 in
theorem gX0_findTallest_X6_hasBit_n84 : GoodIn wsX0_findTallest (wsX6_hasBit) := ggX0_findTallest_X6_hasBit
set_option maxRecDepth 20000 in
theorem ggX0_findTallest_X0_raiseBy : GoodIn wsX0_findTallest wsX0_raiseBy := goodIn_r _ [14, 1, 15, 16, 17, 18, 19, 8, 20, 21, 22, 23, 13, 24, 25, 7, 9, 32, 33, 34, 35, 36, 37, 38, 39, 26, 27, 28, 29, 30, 31] rfl (by decide +kernel)
set_option maxRecDepth 20000 in
theorem gX0_findTallest_X0_raiseBy : GoodIn wsX0_findTallest (wsV RX0 95 RX0 yX0_raiseBy wsX0_raiseBy) := goodIn_app (goodIn_of _ (by decide +kernel)) ggX0_findTallest_X0_raiseBy
set_option maxRecDepth 20000 in
theorem ggX0_raiseBy_X6_headOf : GoodIn wsX0_raiseBy wsX6_headOf := goodIn_r _ [8] rfl (by decide +kernel)
set_option maxRecDepth 20000 in
theorem gX0_raiseBy_X6_headOf_n76 : GoodIn wsX0_raiseBy (wsX6_headOf) := ggX0_raiseBy_X6_headOf
set_option maxRecDepth 20000 in
theorem ggX0_raiseBy_X0_uncovered : GoodIn wsX0_raiseBy wsX0_uncovered := goodIn_r _ [13, 14, 6, 7, 8, 15, 16, 17, 18, 19, 20, 21, 22, 23, 24, 25, 26, 27, 28, 29, 30] rfl (by decide +kernel)
set_option maxRecDepth 20000 in
theorem gX0_raiseBy_X0_uncovered : GoodIn wsX0_raiseBy (wsV RX0 80 RX0 yX0_uncovered wsX0_uncovered) := goodIn_app (goodIn_of _ (by decide +kernel)) ggX0_raiseBy_X0_uncovered
set_option maxRecDepth 20000 in
theorem ggX0_raiseBy_X6_hasBit : GoodIn wsX0_raiseBy wsX6_hasBit := goodIn_r _ [16] rfl (by decide +kernel)
set_option maxRecDepth 20000 in
theorem gX0_raiseBy_X6_hasBit_n84 : GoodIn wsX0_raiseBy (wsX6_hasBit) := ggX0_raiseBy_X6_hasBit
set_option maxRecDepth 20000 in
theorem ggX0_goOnFrom_X0_headsOf : GoodIn wsX0_goOnFrom wsX0_headsOf := goodIn_r _ [6, 7, 8, 9, 10, 11] rfl (by decide +kernel)
set_option maxRecDepth 20000 in
theorem gX0_goOnFrom_X0_headsOf : GoodIn wsX0_goOnFrom (wsV RX0 115 RX0 yX0_headsOf wsX0_headsOf) := goodIn_app (goodIn_of _ (by decide +kernel)) ggX0_goOnFrom_X0_headsOf
set_option maxRecDepth 20000 in
theorem ggX0_goOnFrom_X0_allExits : GoodIn wsX0_goOnFrom wsX0_allExits := goodIn_r _ [15, 16, 7, 8, 9, 10, 11, 20, 21, 22, 23, 24, 25] rfl (by decide +kernel)
set_option maxRecDepth 20000 in
theorem gX0_goOnFrom_X0_allExits : GoodIn wsX0_goOnFrom (wsV RX0 118 RX0 yX0_allExits wsX0_allExits) := goodIn_app (goodIn_of _ (by decide +kernel)) ggX0_goOnFrom_X0_allExits
set_option maxRecDepth 20000 in
theorem ggX0_topFrom_X0_headsOf : GoodIn wsX0_topFrom wsX0_headsOf := goodIn_r _ [11, 12, 13, 14, 15, 16] rfl (by decide +kernel)
set_option maxRecDepth 20000 in
theorem gX0_topFrom_X0_headsOf : GoodIn wsX0_topFrom (wsV RX0 115 RX0 yX0_headsOf wsX0_headsOf) := goodIn_app (goodIn_of _ (by decide +kernel)) ggX0_topFrom_X0_headsOf
set_option maxRecDepth 20000 in
theorem ggX0_topFrom_X6_hasBit : GoodIn wsX0_topFrom wsX6_hasBit := goodIn_r _ [14] rfl (by decide +kernel)
set_option maxRecDepth 20000 in
theorem gX0_topFrom_X6_hasBit_n84 : GoodIn wsX0_topFrom (wsX6_hasBit) := ggX0_topFrom_X6_hasBit
set_option maxRecDepth 20000 in
theorem ggX0_topFrom_X0_allExits : GoodIn wsX0_topFrom wsX0_allExits := goodIn_r _ [20, 21, 12, 13, 14, 15, 16, 25, 26, 27, 28, 29, 30] rfl (by decide +kernel)
set_option maxRecDepth 20000 in
theorem gX0_topFrom_X0_allExits : GoodIn wsX0_topFrom (wsV RX0 118 RX0 yX0_allExits wsX0_allExits) := goodIn_app (goodIn_of _ (by decide +kernel)) ggX0_topFrom_X0_allExits
set_option maxRecDepth 20000 in
theorem ggX0_headsOf_X6_hasBit : GoodIn wsX0_headsOf wsX6_hasBit := goodIn_r _ [3] rfl (by decide +kernel)
set_option maxRecDepth 20000 in
theorem gX0_headsOf_X6_hasBit_n84 : GoodIn wsX0_headsOf (wsX6_hasBit) := ggX0_headsOf_X6_hasBit
set_option maxRecDepth 20000 in
theorem ggX0_headsOf_X6_headOf : GoodIn wsX0_headsOf wsX6_headOf := goodIn_r _ [5] rfl (by decide +kernel)
set_option maxRecDepth 20000 in
theorem gX0_headsOf_X6_headOf_n76 : GoodIn wsX0_headsOf (wsX6_headOf) := ggX0_headsOf_X6_headOf
set_option maxRecDepth 20000 in
theorem ggX0_allExits_X6_hasBit : GoodIn wsX0_allExits wsX6_hasBit := goodIn_r _ [4] rfl (by decide +kernel)
set_option maxRecDepth 20000 in
theorem gX0_allExits_X6_hasBit_n84 : GoodIn wsX0_allExits (wsX6_hasBit) := ggX0_allExits_X6_hasBit
set_option maxRecDepth 20000 in
theorem ggX0_allExits_X6_headOf : GoodIn wsX0_allExits wsX6_headOf := goodIn_r _ [6] rfl (by decide +kernel)
set_option maxRecDepth 20000 in
theorem gX0_allExits_X6_headOf_n76 : GoodIn wsX0_allExits (wsX6_headOf) := ggX0_allExits_X6_headOf
set_option maxRecDepth 20000 in
theorem ggX1_start_X2_isLast : GoodIn wsX1_start wsX2_isLast := goodIn_r _ [7, 8, 9, 10, 11, 13, 14, 15, 16, 17, 18] rfl (by decide +kernel)
set_option maxRecDepth 20000 in
theorem gX1_start_X2_isLast : GoodIn wsX1_start (wsV RX1 15 RX2 yX2_isLast wsX2_isLast) := goodIn_app (goodIn_of _ (by decide +kernel)) ggX1_start_X2_isLast
set_option maxRecDepth 20000 in
theorem ggX1_build_X1_across : GoodIn wsX1_build wsX1_across := goodIn_r _ [6, 7, 1, 8, 9, 10, 11, 12, 13, 14, 15, 16, 17, 18, 19, 20, 21, 22, 23, 24, 25, 26, 27, 28, 29, 30, 31, 32, 33, 37, 38, 39, 40, 41, 42, 43] rfl (by decide +kernel)
set_option maxRecDepth 20000 in
theorem gX1_build_X1_across : GoodIn wsX1_build (wsV RX1 33 RX1 yX1_across wsX1_across) := goodIn_app (goodIn_of _ (by decide +kernel)) ggX1_build_X1_across
set_option maxRecDepth 20000 in
theorem ggX1_across_X2_through : GoodIn wsX1_across wsX2_through := goodIn_r _ [11, 12, 13, 14, 15, 16, 17, 18, 19, 10, 20, 21, 22, 23, 30, 31, 32, 33, 34, 35] rfl (by decide +kernel)
set_option maxRecDepth 20000 in
theorem gX1_across_X2_through : GoodIn wsX1_across (wsV RX1 37 RX2 yX2_through wsX2_through) := goodIn_app (goodIn_of _ (by decide +kernel)) ggX1_across_X2_through
set_option maxRecDepth 20000 in
theorem ggX1_across_X6_sum : GoodIn wsX1_across wsX6_sum := goodIn_r _ [25, 26, 27, 28, 4, 5, 6] rfl (by decide +kernel)
set_option maxRecDepth 20000 in
theorem gX1_across_X6_sum_n41 : GoodIn wsX1_across (wsX6_sum) := ggX1_across_X6_sum
set_option maxRecDepth 20000 in
theorem ggX1_after_X1_across : GoodIn wsX1_after wsX1_across := goodIn_r _ [11, 2, 1, 3, 4, 5, 6, 12, 13, 14, 15, 16, 17, 18, 19, 20, 21, 22, 23, 24, 25, 26, 27, 28, 29, 30, 31, 32, 33, 42, 43, 44, 45, 46, 47, 48] rfl (by decide +kernel)
set_option maxRecDepth 20000 in
theorem gX1_after_X1_across : GoodIn wsX1_after (wsV RX1 33 RX1 yX1_across wsX1_across) := goodIn_app (goodIn_of _ (by decide +kernel)) ggX1_after_X1_across
set_option maxRecDepth 20000 in
theorem ggX1_after_X2_through : GoodIn wsX1_after wsX2_through := goodIn_r _ [16, 17, 18, 19, 20, 21, 22, 23, 24, 15, 25, 26, 27, 28, 43, 44, 45, 46, 47, 48] rfl (by decide +kernel)
set_option maxRecDepth 20000 in
theorem gX1_after_X2_through : GoodIn wsX1_after (wsV RX1 37 RX2 yX2_through wsX2_through) := goodIn_app (goodIn_of _ (by decide +kernel)) ggX1_after_X2_through
set_option maxRecDepth 20000 in
theorem ggX1_after_X6_sum : GoodIn wsX1_after wsX6_sum := goodIn_r _ [30, 31, 32, 33, 4, 5, 6] rfl (by decide +kernel)
set_option maxRecDepth 20000 in
theorem gX1_after_X6_sum_n41 : GoodIn wsX1_after (wsX6_sum) := ggX1_after_X6_sum
set_option maxRecDepth 20000 in
theorem ggX2_restart_J7_fill_53178 : GoodIn wsX2_restart wsJ7_fill_53178 := goodIn_r _ [8] rfl (by decide +kernel)
set_option maxRecDepth 20000 in
theorem gX2_restart_J7_fill_53178 : GoodIn wsX2_restart (va_wsS RX2 33 yJ7_fill_53178 wsJ7_fill_53178) := goodIn_app (goodIn_of _ (by decide +kernel)) ggX2_restart_J7_fill_53178
set_option maxRecDepth 20000 in
theorem ggX2_mark_X2_isLast : GoodIn wsX2_mark wsX2_isLast := goodIn_r _ [6, 1, 7, 8, 9, 10, 11, 12, 13, 14, 15] rfl (by decide +kernel)
set_option maxRecDepth 20000 in
theorem gX2_mark_X2_isLast : GoodIn wsX2_mark (wsV RX2 39 RX2 yX2_isLast wsX2_isLast) := goodIn_app (goodIn_of _ (by decide +kernel)) ggX2_mark_X2_isLast
set_option maxRecDepth 20000 in
theorem ggX2_isLast_X6_hasBit : GoodIn wsX2_isLast wsX6_hasBit := goodIn_r _ [4] rfl (by decide +kernel)
set_option maxRecDepth 20000 in
theorem gX2_isLast_X6_hasBit_n43 : GoodIn wsX2_isLast (wsX6_hasBit) := ggX2_isLast_X6_hasBit
set_option maxRecDepth 20000 in
theorem ggX2_hasHop_X6_hasBit : GoodIn wsX2_hasHop wsX6_hasBit := goodIn_r _ [4] rfl (by decide +kernel)
set_option maxRecDepth 20000 in
theorem gX2_hasHop_X6_hasBit_n43 : GoodIn wsX2_hasHop (wsX6_hasBit) := ggX2_hasHop_X6_hasBit
set_option maxRecDepth 20000 in
theorem ggX2_holds_X2_allHops : GoodIn wsX2_holds wsX2_allHops := goodIn_r _ [6, 7, 8, 9, 10, 14, 15, 16, 17, 18, 19] rfl (by decide +kernel)
set_option maxRecDepth 20000 in
theorem gX2_holds_X2_allHops : GoodIn wsX2_holds (wsV RX2 58 RX2 yX2_allHops wsX2_allHops) := goodIn_app (goodIn_of _ (by decide +kernel)) ggX2_holds_X2_allHops
set_option maxRecDepth 20000 in
theorem ggX2_allHops_X6_hasBit : GoodIn wsX2_allHops wsX6_hasBit := goodIn_r _ [4] rfl (by decide +kernel)
set_option maxRecDepth 20000 in
theorem gX2_allHops_X6_hasBit_n43 : GoodIn wsX2_allHops (wsX6_hasBit) := ggX2_allHops_X6_hasBit
set_option maxRecDepth 20000 in
theorem ggX2_renew_X2_startFrom : GoodIn wsX2_renew wsX2_startFrom := goodIn_r _ [8, 3, 9, 10, 11, 12, 7, 13, 14, 15, 16, 17, 44, 45, 46, 47, 48, 49, 58, 59] rfl (by decide +kernel)
set_option maxRecDepth 20000 in
theorem gX2_renew_X2_startFrom : GoodIn wsX2_renew (wsV RX2 67 RX2 yX2_startFrom wsX2_startFrom) := goodIn_app (goodIn_of _ (by decide +kernel)) ggX2_renew_X2_startFrom
set_option maxRecDepth 20000 in
theorem ggX2_renew_X2_lowerBy : GoodIn wsX2_renew wsX2_lowerBy := goodIn_r _ [21, 3, 9, 22, 16, 23, 24, 25, 26, 27, 28, 29, 30, 31, 32, 33, 34, 7, 35, 36, 37, 38, 39, 40, 41, 42, 43, 10, 11, 12, 13, 14, 15, 17, 50, 51, 52, 53, 54, 55, 56, 57, 44, 45, 46, 47, 48, 49] rfl (by decide +kernel)
set_option maxRecDepth 20000 in
theorem gX2_renew_X2_lowerBy : GoodIn wsX2_renew (wsV RX2 74 RX2 yX2_lowerBy wsX2_lowerBy) := goodIn_app (goodIn_of _ (by decide +kernel)) ggX2_renew_X2_lowerBy
set_option maxRecDepth 20000 in
theorem ggX2_startFrom_X2_hasHop : GoodIn wsX2_startFrom wsX2_hasHop := goodIn_r _ [7, 8, 9, 10, 11, 12, 13, 14, 15, 16, 17] rfl (by decide +kernel)
set_option maxRecDepth 20000 in
theorem gX2_startFrom_X2_hasHop : GoodIn wsX2_startFrom (wsV RX2 83 RX2 yX2_hasHop wsX2_hasHop) := goodIn_app (goodIn_of _ (by decide +kernel)) ggX2_startFrom_X2_hasHop
set_option maxRecDepth 20000 in
theorem ggX2_lowerBy_X6_headOf : GoodIn wsX2_lowerBy wsX6_headOf := goodIn_r _ [5] rfl (by decide +kernel)
set_option maxRecDepth 20000 in
theorem gX2_lowerBy_X6_headOf_n95 : GoodIn wsX2_lowerBy (wsX6_headOf) := ggX2_lowerBy_X6_headOf
set_option maxRecDepth 20000 in
theorem ggX2_lowerBy_X6_sum : GoodIn wsX2_lowerBy wsX6_sum := goodIn_r _ [7, 8, 9, 10, 11, 12, 13] rfl (by decide +kernel)
set_option maxRecDepth 20000 in
theorem gX2_lowerBy_X6_sum_n98 : GoodIn wsX2_lowerBy (wsX6_sum) := ggX2_lowerBy_X6_sum
set_option maxRecDepth 20000 in
theorem ggX2_lowerBy_X2_lower : GoodIn wsX2_lowerBy wsX2_lower := goodIn_r _ [18, 1, 42, 43, 44, 45, 46, 47] rfl (by decide +kernel)
set_option maxRecDepth 20000 in
theorem gX2_lowerBy_X2_lower : GoodIn wsX2_lowerBy (wsV RX2 108 RX2 yX2_lower wsX2_lower) := goodIn_app (goodIn_of _ (by decide +kernel)) ggX2_lowerBy_X2_lower
set_option maxRecDepth 20000 in
theorem ggX2_lowerBy_X2_lowerRow : GoodIn wsX2_lowerBy wsX2_lowerRow := goodIn_r _ [22, 23, 24, 25, 17, 26, 1, 2, 3, 4, 5, 27, 28, 29, 30, 31, 32, 33, 6, 7, 8, 9, 10, 11, 12, 13, 14, 15, 16, 18, 42, 43, 44, 45, 46, 47] rfl (by decide +kernel)
set_option maxRecDepth 20000 in
theorem gX2_lowerBy_X2_lowerRow : GoodIn wsX2_lowerBy (wsV RX2 112 RX2 yX2_lowerRow wsX2_lowerRow) := goodIn_app (goodIn_of _ (by decide +kernel)) ggX2_lowerBy_X2_lowerRow
set_option maxRecDepth 20000 in
theorem ggX2_lowerRow_X2_through : GoodIn wsX2_lowerRow wsX2_through := goodIn_r _ [5, 6, 7, 8, 9, 10, 11, 12, 13, 4, 14, 15, 16, 17, 30, 31, 32, 33, 34, 35] rfl (by decide +kernel)
set_option maxRecDepth 20000 in
theorem gX2_lowerRow_X2_through : GoodIn wsX2_lowerRow (wsV RX2 116 RX2 yX2_through wsX2_through) := goodIn_app (goodIn_of _ (by decide +kernel)) ggX2_lowerRow_X2_through
set_option maxRecDepth 20000 in
theorem ggX2_lowerRow_X6_sum : GoodIn wsX2_lowerRow wsX6_sum := goodIn_r _ [19, 20, 21, 22, 23, 24, 25] rfl (by decide +kernel)
set_option maxRecDepth 20000 in
theorem gX2_lowerRow_X6_sum_n98 : GoodIn wsX2_lowerRow (wsX6_sum) := ggX2_lowerRow_X6_sum
set_option maxRecDepth 20000 in
theorem ggX2_lowerRow_X2_lower : GoodIn wsX2_lowerRow wsX2_lower := goodIn_r _ [29, 6, 30, 31, 32, 33, 34, 35] rfl (by decide +kernel)
set_option maxRecDepth 20000 in
theorem gX2_lowerRow_X2_lower : GoodIn wsX2_lowerRow (wsV RX2 108 RX2 yX2_lower wsX2_lower) := goodIn_app (goodIn_of _ (by decide +kernel)) ggX2_lowerRow_X2_lower
set_option maxRecDepth 20000 in
theorem ggX2_through_X6_headOf : GoodIn wsX2_through wsX6_headOf := goodIn_r _ [5] rfl (by decide +kernel)
set_option maxRecDepth 20000 in
theorem gX2_through_X6_headOf_n95 : GoodIn wsX2_through (wsX6_headOf) := ggX2_through_X6_headOf
set_option maxRecDepth 20000 in
theorem ggX2_through_X2_hasHop : GoodIn wsX2_through wsX2_hasHop := goodIn_r _ [10, 11, 12, 4, 13, 14, 15, 16, 17, 18, 19] rfl (by decide +kernel)
set_option maxRecDepth 20000 in
theorem gX2_through_X2_hasHop : GoodIn wsX2_through (wsV RX2 83 RX2 yX2_hasHop wsX2_hasHop) := goodIn_app (goodIn_of _ (by decide +kernel)) ggX2_through_X2_hasHop
set_option maxRecDepth 20000 in
theorem ggX3_renew_J7_fill_d0a16 : GoodIn wsX3_renew wsJ7_fill_d0a16 := goodIn_r _ [7] rfl (by decide +kernel)
set_option maxRecDepth 20000 in
theorem gX3_renew_J7_fill_d0a16 : GoodIn wsX3_renew (va_wsS RX3 26 yJ7_fill_d0a16 wsJ7_fill_d0a16) := goodIn_app (goodIn_of _ (by decide +kernel)) ggX3_renew_J7_fill_d0a16
set_option maxRecDepth 20000 in
theorem ggX3_renew_X3_lowerBy : GoodIn wsX3_renew wsX3_lowerBy := goodIn_r _ [12, 2, 3, 13, 14, 15, 11, 16, 17, 18, 19, 20, 21, 22, 23, 24, 25, 26, 27, 28, 29, 30, 31, 34, 35, 36, 37, 38, 39, 40, 41, 32, 33] rfl (by decide +kernel)
set_option maxRecDepth 20000 in
theorem gX3_renew_X3_lowerBy : GoodIn wsX3_renew (wsV RX3 35 RX3 yX3_lowerBy wsX3_lowerBy) := goodIn_app (goodIn_of _ (by decide +kernel)) ggX3_renew_X3_lowerBy
set_option maxRecDepth 20000 in
theorem ggX3_lowerBy_X3_lower : GoodIn wsX3_lowerBy wsX3_lower := goodIn_r _ [7, 1, 31, 32] rfl (by decide +kernel)
set_option maxRecDepth 20000 in
theorem gX3_lowerBy_X3_lower : GoodIn wsX3_lowerBy (wsV RX3 49 RX3 yX3_lower wsX3_lower) := goodIn_app (goodIn_of _ (by decide +kernel)) ggX3_lowerBy_X3_lower
set_option maxRecDepth 20000 in
theorem ggX3_lowerBy_X6_headOf : GoodIn wsX3_lowerBy wsX6_headOf := goodIn_r _ [10] rfl (by decide +kernel)
set_option maxRecDepth 20000 in
theorem gX3_lowerBy_X6_headOf_n53 : GoodIn wsX3_lowerBy (wsX6_headOf) := ggX3_lowerBy_X6_headOf
set_option maxRecDepth 20000 in
theorem ggX3_lowerBy_X6_sum : GoodIn wsX3_lowerBy wsX6_sum := goodIn_r _ [12, 13, 14, 15, 16, 17, 18] rfl (by decide +kernel)
set_option maxRecDepth 20000 in
theorem gX3_lowerBy_X6_sum_n60 : GoodIn wsX3_lowerBy (wsX6_sum) := ggX3_lowerBy_X6_sum
set_option maxRecDepth 20000 in
theorem ggX3_lowerBy_X3_lowerRow : GoodIn wsX3_lowerBy wsX3_lowerRow := goodIn_r _ [22, 1, 11, 9, 12, 13, 14, 15, 16, 17, 18, 3, 4, 5, 6, 7, 23, 24, 25, 26, 27, 28, 29, 30, 31, 32] rfl (by decide +kernel)
set_option maxRecDepth 20000 in
theorem gX3_lowerBy_X3_lowerRow : GoodIn wsX3_lowerBy (wsV RX3 67 RX3 yX3_lowerRow wsX3_lowerRow) := goodIn_app (goodIn_of _ (by decide +kernel)) ggX3_lowerBy_X3_lowerRow
set_option maxRecDepth 20000 in
theorem ggX3_lowerRow_X6_sum : GoodIn wsX3_lowerRow wsX6_sum := goodIn_r _ [4, 5, 6, 7, 8, 9, 10] rfl (by decide +kernel)
set_option maxRecDepth 20000 in
theorem gX3_lowerRow_X6_sum_n60 : GoodIn wsX3_lowerRow (wsX6_sum) := ggX3_lowerRow_X6_sum
set_option maxRecDepth 20000 in
theorem ggX3_lowerRow_X3_lower : GoodIn wsX3_lowerRow wsX3_lower := goodIn_r _ [15, 1, 24, 25] rfl (by decide +kernel)
set_option maxRecDepth 20000 in
theorem gX3_lowerRow_X3_lower : GoodIn wsX3_lowerRow (wsV RX3 49 RX3 yX3_lower wsX3_lower) := goodIn_app (goodIn_of _ (by decide +kernel)) ggX3_lowerRow_X3_lower
set_option maxRecDepth 20000 in
theorem ggX5_head_X6_headOf : GoodIn wsX5_head wsX6_headOf := goodIn_r _ [6] rfl (by decide +kernel)
set_option maxRecDepth 20000 in
theorem gX5_head_X6_headOf_n22 : GoodIn wsX5_head (wsX6_headOf) := ggX5_head_X6_headOf
set_option maxRecDepth 20000 in
theorem ggX5_change_X5_cover : GoodIn wsX5_change wsX5_cover := goodIn_r _ [7, 8, 1, 9, 10, 11] rfl (by decide +kernel)
set_option maxRecDepth 20000 in
theorem gX5_change_X5_cover : GoodIn wsX5_change (wsV RX5 31 RX5 yX5_cover wsX5_cover) := goodIn_app (goodIn_of _ (by decide +kernel)) ggX5_change_X5_cover
set_option maxRecDepth 20000 in
theorem ggX6_init_X4_init : GoodIn wsX6_init wsX4_init := goodIn_r _ [30, 31, 2, 3, 32, 33, 34, 35, 36, 37, 38, 39, 40, 75, 76, 77, 78, 79, 80, 81, 82] rfl (by decide +kernel)
set_option maxRecDepth 20000 in
theorem gX6_init_X4_init_n11 : GoodIn wsX6_init (wsX4_init) := ggX6_init_X4_init
set_option maxRecDepth 20000 in
theorem ggX6_init_X5_init : GoodIn wsX6_init wsX5_init := goodIn_r _ [42, 43, 2, 3, 44, 45, 36, 46, 90, 91, 92] rfl (by decide +kernel)
set_option maxRecDepth 20000 in
theorem gX6_init_X5_init_n18 : GoodIn wsX6_init (wsX5_init) := ggX6_init_X5_init
set_option maxRecDepth 20000 in
theorem ggX6_init_X3_init : GoodIn wsX6_init wsX3_init := goodIn_r _ [48, 49, 2, 3, 50, 51, 52, 93, 94] rfl (by decide +kernel)
set_option maxRecDepth 20000 in
theorem gX6_init_X3_init_n31 : GoodIn wsX6_init (wsX3_init) := ggX6_init_X3_init
set_option maxRecDepth 20000 in
theorem ggX6_init_X0_init : GoodIn wsX6_init wsX0_init := goodIn_r _ [54, 55, 2, 3, 36, 56, 57, 58, 59, 60, 61, 95, 96, 97, 98, 99, 100] rfl (by decide +kernel)
set_option maxRecDepth 20000 in
theorem gX6_init_X0_init_n38 : GoodIn wsX6_init (wsX0_init) := ggX6_init_X0_init
set_option maxRecDepth 20000 in
theorem ggX6_init_X1_init : GoodIn wsX6_init wsX1_init := goodIn_r _ [63, 64, 2, 3, 50, 65, 101] rfl (by decide +kernel)
set_option maxRecDepth 20000 in
theorem gX6_init_X1_init_n45 : GoodIn wsX6_init (wsX1_init) := ggX6_init_X1_init
set_option maxRecDepth 20000 in
theorem ggX6_init_X2_init : GoodIn wsX6_init wsX2_init := goodIn_r _ [67, 68, 2, 3, 69, 70, 36, 71, 50, 72, 73, 74, 102, 103, 104, 105, 106, 107] rfl (by decide +kernel)
set_option maxRecDepth 20000 in
theorem gX6_init_X2_init_n54 : GoodIn wsX6_init (wsX2_init) := ggX6_init_X2_init
set_option maxRecDepth 20000 in
theorem ggX6_machine_X4_restart : GoodIn wsX6_machine wsX4_restart := goodIn_r _ [8, 9, 10, 11, 12, 27, 28, 29, 30, 31, 32, 33, 34] rfl (by decide +kernel)
end
section
set_option maxRecDepth 20000 in
theorem gX6_machine_X4_restart : GoodIn wsX6_machine (wsV RX6 58 RX4 yX4_restart wsX4_restart) := goodIn_app (goodIn_of _ (by decide +kernel)) ggX6_machine_X4_restart
set_option maxRecDepth 20000 in
theorem ggX6_machine_X5_restart : GoodIn wsX6_machine wsX5_restart := goodIn_r _ [17, 18, 19, 35, 36, 37] rfl (by decide +kernel)
set_option maxRecDepth 20000 in
theorem gX6_machine_X5_restart : GoodIn wsX6_machine (wsV RX6 62 RX5 yX5_restart wsX5_restart) := goodIn_app (goodIn_of _ (by decide +kernel)) ggX6_machine_X5_restart
set_option maxRecDepth 20000 in
theorem ggX6_rule_X4_isControl : GoodIn wsX6_rule wsX4_isControl := goodIn_r _ [6, 7, 34, 35, 36, 37, 38, 39, 40, 41] rfl (by decide +kernel)
set_option maxRecDepth 20000 in
theorem gX6_rule_X4_isControl : GoodIn wsX6_rule (wsV RX6 65 RX4 yX4_isControl wsX4_isControl) := goodIn_app (goodIn_of _ (by decide +kernel)) ggX6_rule_X4_isControl
set_option maxRecDepth 20000 in
theorem ggX6_rule_X4_isSign : GoodIn wsX6_rule wsX4_isSign := goodIn_r _ [11, 12, 34, 35, 36, 37, 38, 39, 40, 41] rfl (by decide +kernel)
set_option maxRecDepth 20000 in
theorem gX6_rule_X4_isSign : GoodIn wsX6_rule (wsV RX6 69 RX4 yX4_isSign wsX4_isSign) := goodIn_app (goodIn_of _ (by decide +kernel)) ggX6_rule_X4_isSign
set_option maxRecDepth 20000 in
theorem ggX6_rule_X6_headOf : GoodIn wsX6_rule wsX6_headOf := goodIn_r _ [16] rfl (by decide +kernel)
set_option maxRecDepth 20000 in
theorem gX6_rule_X6_headOf : GoodIn wsX6_rule (va_wsS RX6 72 yX6_headOf wsX6_headOf) := goodIn_app (goodIn_of _ (by decide +kernel)) ggX6_rule_X6_headOf
set_option maxRecDepth 20000 in
theorem ggX6_rule_X4_add : GoodIn wsX6_rule wsX4_add := goodIn_r _ [20, 21, 22, 23, 24, 25, 26, 34, 35, 36, 37, 38, 39, 40, 41] rfl (by decide +kernel)
set_option maxRecDepth 20000 in
theorem gX6_rule_X4_add : GoodIn wsX6_rule (wsV RX6 76 RX4 yX4_add wsX4_add) := goodIn_app (goodIn_of _ (by decide +kernel)) ggX6_rule_X4_add
set_option maxRecDepth 20000 in
theorem ggX6_unrule_X4_dropNewest : GoodIn wsX6_unrule wsX4_dropNewest := goodIn_r _ [6, 7, 8, 16, 17, 18, 19, 20, 21, 22, 23] rfl (by decide +kernel)
set_option maxRecDepth 20000 in
theorem gX6_unrule_X4_dropNewest : GoodIn wsX6_unrule (wsV RX6 80 RX4 yX4_dropNewest wsX4_dropNewest) := goodIn_app (goodIn_of _ (by decide +kernel)) ggX6_unrule_X4_dropNewest
set_option maxRecDepth 20000 in
theorem ggX6_stand_X4_isControl : GoodIn wsX6_stand wsX4_isControl := goodIn_r _ [7, 8, 26, 27, 28, 29, 30, 31, 32, 33] rfl (by decide +kernel)
set_option maxRecDepth 20000 in
theorem gX6_stand_X4_isControl : GoodIn wsX6_stand (wsV RX6 65 RX4 yX4_isControl wsX4_isControl) := goodIn_app (goodIn_of _ (by decide +kernel)) ggX6_stand_X4_isControl
set_option maxRecDepth 20000 in
theorem ggX6_stand_X5_restart : GoodIn wsX6_stand wsX5_restart := goodIn_r _ [13, 14, 15, 23, 24, 25] rfl (by decide +kernel)
set_option maxRecDepth 20000 in
theorem gX6_stand_X5_restart : GoodIn wsX6_stand (wsV RX6 62 RX5 yX5_restart wsX5_restart) := goodIn_app (goodIn_of _ (by decide +kernel)) ggX6_stand_X5_restart
set_option maxRecDepth 20000 in
theorem ggX6_push_X4_isSign : GoodIn wsX6_push wsX4_isSign := goodIn_r _ [7, 8, 26, 27, 28, 29, 30, 31, 32, 33] rfl (by decide +kernel)
set_option maxRecDepth 20000 in
theorem gX6_push_X4_isSign : GoodIn wsX6_push (wsV RX6 69 RX4 yX4_isSign wsX4_isSign) := goodIn_app (goodIn_of _ (by decide +kernel)) ggX6_push_X4_isSign
set_option maxRecDepth 20000 in
theorem ggX6_push_X5_cover : GoodIn wsX6_push wsX5_cover := goodIn_r _ [13, 14, 15, 23, 24, 25] rfl (by decide +kernel)
set_option maxRecDepth 20000 in
theorem gX6_push_X5_cover : GoodIn wsX6_push (wsV RX6 87 RX5 yX5_cover wsX5_cover) := goodIn_app (goodIn_of _ (by decide +kernel)) ggX6_push_X5_cover
set_option maxRecDepth 20000 in
theorem ggX6_go_X5_head : GoodIn wsX6_go wsX5_head := goodIn_r _ [7, 8, 9, 10, 11, 12, 13, 41, 42, 43] rfl (by decide +kernel)
set_option maxRecDepth 20000 in
theorem gX6_go_X5_head : GoodIn wsX6_go (wsV RX6 100 RX5 yX5_head wsX5_head) := goodIn_app (goodIn_of _ (by decide +kernel)) ggX6_go_X5_head
set_option maxRecDepth 20000 in
theorem ggX6_go_X5_hasRoom : GoodIn wsX6_go wsX5_hasRoom := goodIn_r _ [17, 8, 33, 34, 35, 36, 37, 38, 39, 40, 41, 42, 43] rfl (by decide +kernel)
set_option maxRecDepth 20000 in
theorem gX6_go_X5_hasRoom : GoodIn wsX6_go (wsV RX6 102 RX5 yX5_hasRoom wsX5_hasRoom) := goodIn_app (goodIn_of _ (by decide +kernel)) ggX6_go_X5_hasRoom
set_option maxRecDepth 20000 in
theorem ggX6_go_X5_change : GoodIn wsX6_go wsX5_change := goodIn_r _ [21, 8, 9, 22, 23, 24, 6, 25, 10, 41, 42, 43, 33, 34, 35, 36, 37, 38, 39, 40] rfl (by decide +kernel)
set_option maxRecDepth 20000 in
theorem gX6_go_X5_change : GoodIn wsX6_go (wsV RX6 106 RX5 yX5_change wsX5_change) := goodIn_app (goodIn_of _ (by decide +kernel)) ggX6_go_X5_change
set_option maxRecDepth 20000 in
theorem ggX6_set_X2_restart : GoodIn wsX6_set wsX2_restart := goodIn_r _ [7, 8, 9, 10, 11, 12, 13, 14, 15, 23, 24, 25, 26, 27, 28] rfl (by decide +kernel)
set_option maxRecDepth 20000 in
theorem gX6_set_X2_restart : GoodIn wsX6_set (wsV RX6 110 RX2 yX2_restart wsX2_restart) := goodIn_app (goodIn_of _ (by decide +kernel)) ggX6_set_X2_restart
set_option maxRecDepth 20000 in
theorem ggX6_link_X6_isSet : GoodIn wsX6_link wsX6_isSet := goodIn_r _ [7, 8, 35, 36, 37, 38, 39, 40, 41] rfl (by decide +kernel)
set_option maxRecDepth 20000 in
theorem gX6_link_X6_isSet : GoodIn wsX6_link (wsV RX6 112 RX6 yX6_isSet wsX6_isSet) := goodIn_app (goodIn_of _ (by decide +kernel)) ggX6_link_X6_isSet
set_option maxRecDepth 20000 in
theorem ggX6_link_X6_isPlace : GoodIn wsX6_link wsX6_isPlace := goodIn_r _ [12, 1, 13, 14, 15, 16, 17, 18, 35, 36, 37, 38, 39, 40, 41, 48, 49, 50, 51, 52, 53, 54, 55] rfl (by decide +kernel)
set_option maxRecDepth 20000 in
theorem gX6_link_X6_isPlace : GoodIn wsX6_link (wsV RX6 115 RX6 yX6_isPlace wsX6_isPlace) := goodIn_app (goodIn_of _ (by decide +kernel)) ggX6_link_X6_isPlace
set_option maxRecDepth 20000 in
theorem ggX6_link_X4_isSign : GoodIn wsX6_link wsX4_isSign := goodIn_r _ [22, 23, 48, 49, 50, 51, 52, 53, 54, 55] rfl (by decide +kernel)
set_option maxRecDepth 20000 in
theorem gX6_link_X4_isSign : GoodIn wsX6_link (wsV RX6 69 RX4 yX4_isSign wsX4_isSign) := goodIn_app (goodIn_of _ (by decide +kernel)) ggX6_link_X4_isSign
set_option maxRecDepth 20000 in
theorem ggX6_link_X6_placeOf : GoodIn wsX6_link wsX6_placeOf := goodIn_r _ [26] rfl (by decide +kernel)
set_option maxRecDepth 20000 in
theorem gX6_link_X6_placeOf : GoodIn wsX6_link (va_wsS RX6 122 yX6_placeOf wsX6_placeOf) := goodIn_app (goodIn_of _ (by decide +kernel)) ggX6_link_X6_placeOf
set_option maxRecDepth 20000 in
theorem ggX6_link_X2_join : GoodIn wsX6_link wsX2_join := goodIn_r _ [31, 32, 33, 34, 42, 43, 44, 45, 46, 47] rfl (by decide +kernel)
set_option maxRecDepth 20000 in
theorem gX6_link_X2_join : GoodIn wsX6_link (wsV RX6 125 RX2 yX2_join wsX2_join) := goodIn_app (goodIn_of _ (by decide +kernel)) ggX6_link_X2_join
set_option maxRecDepth 20000 in
theorem ggX6_last_X6_isSet : GoodIn wsX6_last wsX6_isSet := goodIn_r _ [6, 7, 34, 35, 36, 37, 38, 39, 40] rfl (by decide +kernel)
set_option maxRecDepth 20000 in
theorem gX6_last_X6_isSet : GoodIn wsX6_last (wsV RX6 112 RX6 yX6_isSet wsX6_isSet) := goodIn_app (goodIn_of _ (by decide +kernel)) ggX6_last_X6_isSet
set_option maxRecDepth 20000 in
theorem ggX6_last_X6_isPlace : GoodIn wsX6_last wsX6_isPlace := goodIn_r _ [11, 12, 13, 14, 15, 16, 17, 18, 34, 35, 36, 37, 38, 39, 40, 41, 42, 43, 44, 45, 46, 47, 48] rfl (by decide +kernel)
set_option maxRecDepth 20000 in
theorem gX6_last_X6_isPlace : GoodIn wsX6_last (wsV RX6 115 RX6 yX6_isPlace wsX6_isPlace) := goodIn_app (goodIn_of _ (by decide +kernel)) ggX6_last_X6_isPlace
set_option maxRecDepth 20000 in
theorem ggX6_last_X6_placeOf : GoodIn wsX6_last wsX6_placeOf := goodIn_r _ [21] rfl (by decide +kernel)
set_option maxRecDepth 20000 in
theorem gX6_last_X6_placeOf : GoodIn wsX6_last (va_wsS RX6 122 yX6_placeOf wsX6_placeOf) := goodIn_app (goodIn_of _ (by decide +kernel)) ggX6_last_X6_placeOf
set_option maxRecDepth 20000 in
theorem ggX6_last_X2_mark : GoodIn wsX6_last wsX2_mark := goodIn_r _ [26, 27, 28, 29, 30, 25, 31, 32, 5, 33, 49, 50, 51, 52, 53, 54] rfl (by decide +kernel)
set_option maxRecDepth 20000 in
theorem gX6_last_X2_mark : GoodIn wsX6_last (wsV RX6 129 RX2 yX2_mark wsX2_mark) := goodIn_app (goodIn_of _ (by decide +kernel)) ggX6_last_X2_mark
set_option maxRecDepth 20000 in
theorem ggX6_in_X6_isSet : GoodIn wsX6_in wsX6_isSet := goodIn_r _ [7, 8, 22, 23, 24, 25, 26, 27, 28] rfl (by decide +kernel)
set_option maxRecDepth 20000 in
theorem gX6_in_X6_isSet : GoodIn wsX6_in (wsV RX6 112 RX6 yX6_isSet wsX6_isSet) := goodIn_app (goodIn_of _ (by decide +kernel)) ggX6_in_X6_isSet
set_option maxRecDepth 20000 in
theorem ggX6_in_X2_holds : GoodIn wsX6_in wsX2_holds := goodIn_r _ [13, 14, 15, 16, 17, 12, 18, 19, 20, 6, 21, 29, 30, 31, 32, 33, 34, 35, 36, 37] rfl (by decide +kernel)
set_option maxRecDepth 20000 in
theorem gX6_in_X2_holds : GoodIn wsX6_in (wsV RX6 133 RX2 yX2_holds wsX2_holds) := goodIn_app (goodIn_of _ (by decide +kernel)) ggX6_in_X2_holds
set_option maxRecDepth 20000 in
theorem ggX6_far_X6_isSet : GoodIn wsX6_far wsX6_isSet := goodIn_r _ [6, 7, 113, 114, 115, 116, 117, 118, 119] rfl (by decide +kernel)
set_option maxRecDepth 20000 in
theorem gX6_far_X6_isSet : GoodIn wsX6_far (wsV RX6 112 RX6 yX6_isSet wsX6_isSet) := goodIn_app (goodIn_of _ (by decide +kernel)) ggX6_far_X6_isSet
set_option maxRecDepth 20000 in
theorem ggX6_far_X6_distance : GoodIn wsX6_far wsX6_distance := goodIn_r _ [11, 12, 13, 14, 15, 16, 17, 18, 19, 20, 21, 22, 23, 24, 25, 26, 27, 28, 29, 30, 31, 32, 33, 34, 35, 36, 37, 5, 38, 39, 40, 41, 42, 43, 44, 45, 46, 47, 48, 49, 50, 51, 52, 53, 54, 55, 56, 57, 58, 59, 60, 61, 62, 63, 64, 65, 66, 67, 68, 69, 70, 71, 72, 73, 74, 75, 76, 77, 78, 79, 80, 81, 82, 83, 84, 85, 86, 87, 88, 89, 90, 91, 92, 93, 94, 95, 96, 97, 98, 99, 100, 101, 102, 103, 104, 105, 106, 107, 108, 113, 114, 115, 116, 117, 118, 119, 120, 121, 122, 123, 124, 125, 126, 127, 128, 129, 130, 131, 132, 133, 134, 135, 136, 137, 138, 139] rfl (by decide +kernel)
set_option maxRecDepth 20000 in
theorem gX6_far_X6_distance : GoodIn wsX6_far (wsV RX6 139 RX6 yX6_distance wsX6_distance) := goodIn_app (goodIn_of _ (by decide +kernel)) ggX6_far_X6_distance
set_option maxRecDepth 20000 in
theorem ggX6_far_X6_told : GoodIn wsX6_far wsX6_told := goodIn_r _ [111, 41, 112] rfl (by decide +kernel)
set_option maxRecDepth 20000 in
theorem gX6_far_X6_told : GoodIn wsX6_far (va_wsS RX6 143 yX6_told wsX6_told) := goodIn_app (goodIn_of _ (by decide +kernel)) ggX6_far_X6_told
set_option maxRecDepth 20000 in
theorem ggX6_step_X6_isSet : GoodIn wsX6_step wsX6_isSet := goodIn_r _ [8, 9, 136, 137, 138, 139, 140, 141, 142] rfl (by decide +kernel)
set_option maxRecDepth 20000 in
theorem gX6_step_X6_isSet : GoodIn wsX6_step (wsV RX6 112 RX6 yX6_isSet wsX6_isSet) := goodIn_app (goodIn_of _ (by decide +kernel)) ggX6_step_X6_isSet
set_option maxRecDepth 20000 in
theorem ggX6_step_X6_distance : GoodIn wsX6_step wsX6_distance := goodIn_r _ [13, 14, 15, 3, 16, 2, 17, 18, 19, 20, 21, 22, 23, 24, 25, 26, 27, 28, 29, 30, 31, 32, 33, 34, 35, 36, 37, 7, 38, 39, 40, 41, 1, 42, 43, 44, 45, 46, 47, 48, 49, 50, 51, 52, 53, 54, 55, 56, 57, 58, 59, 60, 61, 62, 63, 64, 65, 66, 67, 68, 69, 70, 71, 72, 73, 74, 75, 76, 77, 78, 79, 80, 81, 82, 83, 84, 85, 86, 87, 88, 89, 90, 91, 92, 93, 94, 95, 96, 97, 98, 99, 100, 101, 102, 103, 104, 105, 106, 107, 136, 137, 138, 139, 140, 141, 142, 143, 144, 145, 146, 147, 148, 149, 150, 151, 152, 153, 154, 155, 156, 157, 158, 159, 160, 161, 162] rfl (by decide +kernel)
set_option maxRecDepth 20000 in
theorem gX6_step_X6_distance : GoodIn wsX6_step (wsV RX6 139 RX6 yX6_distance wsX6_distance) := goodIn_app (goodIn_of _ (by decide +kernel)) ggX6_step_X6_distance
set_option maxRecDepth 20000 in
theorem ggX6_step_X6_nearing : GoodIn wsX6_step wsX6_nearing := goodIn_r _ [111, 2, 3, 16, 14, 112, 113, 114, 115, 116, 117, 118, 119, 37, 7, 38, 120, 121, 122, 89, 123, 91, 92, 106, 43, 44, 45, 102, 103, 104, 105, 107, 83, 84, 53, 85, 57, 62, 63, 64, 65, 66, 67, 68, 69, 39, 40, 41, 1, 42, 136, 137, 138, 139, 140, 141, 142, 149, 150, 151, 152, 153, 154, 155, 156, 144, 145, 146, 143, 157, 158, 159, 160, 161, 162] rfl (by decide +kernel)
set_option maxRecDepth 20000 in
theorem gX6_step_X6_nearing : GoodIn wsX6_step (wsV RX6 149 RX6 yX6_nearing wsX6_nearing) := goodIn_app (goodIn_of _ (by decide +kernel)) ggX6_step_X6_nearing
set_option maxRecDepth 20000 in
theorem ggX6_step_X5_hasRoom : GoodIn wsX6_step wsX5_hasRoom := goodIn_r _ [127, 117, 149, 150, 151, 152, 153, 154, 155, 156, 144, 145, 146] rfl (by decide +kernel)
set_option maxRecDepth 20000 in
theorem gX6_step_X5_hasRoom : GoodIn wsX6_step (wsV RX6 102 RX5 yX5_hasRoom wsX5_hasRoom) := goodIn_app (goodIn_of _ (by decide +kernel)) ggX6_step_X5_hasRoom
set_option maxRecDepth 20000 in
theorem ggX6_step_X5_change : GoodIn wsX6_step wsX5_change := goodIn_r _ [131, 117, 118, 132, 133, 134, 115, 135, 119, 144, 145, 146, 149, 150, 151, 152, 153, 154, 155, 156] rfl (by decide +kernel)
set_option maxRecDepth 20000 in
theorem gX6_step_X5_change : GoodIn wsX6_step (wsV RX6 106 RX5 yX5_change wsX5_change) := goodIn_app (goodIn_of _ (by decide +kernel)) ggX6_step_X5_change
set_option maxRecDepth 20000 in
theorem ggX6_run_X6_isSet : GoodIn wsX6_run wsX6_isSet := goodIn_r _ [10, 11, 136, 137, 138, 139, 140, 141, 142] rfl (by decide +kernel)
set_option maxRecDepth 20000 in
theorem gX6_run_X6_isSet : GoodIn wsX6_run (wsV RX6 112 RX6 yX6_isSet wsX6_isSet) := goodIn_app (goodIn_of _ (by decide +kernel)) ggX6_run_X6_isSet
set_option maxRecDepth 20000 in
theorem ggX6_run_X6_distance : GoodIn wsX6_run wsX6_distance := goodIn_r _ [15, 5, 16, 3, 4, 2, 17, 18, 19, 20, 21, 22, 23, 24, 25, 26, 27, 28, 29, 30, 31, 32, 33, 34, 35, 36, 37, 9, 38, 39, 40, 41, 1, 42, 43, 44, 45, 46, 47, 48, 49, 50, 51, 52, 53, 54, 55, 56, 57, 58, 59, 60, 61, 62, 63, 64, 65, 66, 67, 68, 69, 70, 71, 72, 73, 74, 75, 76, 77, 78, 79, 80, 81, 82, 83, 84, 85, 86, 87, 88, 89, 90, 91, 92, 93, 94, 95, 96, 97, 98, 99, 100, 101, 102, 103, 104, 105, 106, 107, 136, 137, 138, 139, 140, 141, 142, 146, 143, 144, 145, 147, 148, 149, 150, 151, 152, 153, 154, 155, 156, 157, 158, 159, 160, 161, 162] rfl (by decide +kernel)
set_option maxRecDepth 20000 in
theorem gX6_run_X6_distance : GoodIn wsX6_run (wsV RX6 139 RX6 yX6_distance wsX6_distance) := goodIn_app (goodIn_of _ (by decide +kernel)) ggX6_run_X6_distance
set_option maxRecDepth 20000 in
theorem ggX6_run_X6_nearing : GoodIn wsX6_run wsX6_nearing := goodIn_r _ [111, 2, 3, 4, 5, 112, 113, 114, 115, 116, 117, 118, 119, 37, 9, 38, 120, 121, 122, 89, 123, 91, 92, 106, 43, 44, 45, 102, 103, 104, 105, 107, 83, 84, 53, 85, 57, 62, 63, 64, 65, 66, 67, 68, 69, 39, 40, 41, 1, 42, 136, 137, 138, 139, 140, 141, 142, 149, 150, 151, 152, 153, 154, 155, 156, 143, 144, 145, 146, 157, 158, 159, 160, 161, 162] rfl (by decide +kernel)
set_option maxRecDepth 20000 in
theorem gX6_run_X6_nearing : GoodIn wsX6_run (wsV RX6 149 RX6 yX6_nearing wsX6_nearing) := goodIn_app (goodIn_of _ (by decide +kernel)) ggX6_run_X6_nearing
set_option maxRecDepth 20000 in
theorem ggX6_run_X5_hasRoom : GoodIn wsX6_run wsX5_hasRoom := goodIn_r _ [127, 117, 149, 150, 151, 152, 153, 154, 155, 156, 143, 144, 145] rfl (by decide +kernel)
set_option maxRecDepth 20000 in
theorem gX6_run_X5_hasRoom : GoodIn wsX6_run (wsV RX6 102 RX5 yX5_hasRoom wsX5_hasRoom) := goodIn_app (goodIn_of _ (by decide +kernel)) ggX6_run_X5_hasRoom
set_option maxRecDepth 20000 in
theorem ggX6_run_X5_change : GoodIn wsX6_run wsX5_change := goodIn_r _ [131, 117, 118, 132, 133, 134, 115, 135, 119, 143, 144, 145, 149, 150, 151, 152, 153, 154, 155, 156] rfl (by decide +kernel)
set_option maxRecDepth 20000 in
theorem gX6_run_X5_change : GoodIn wsX6_run (wsV RX6 106 RX5 yX5_change wsX5_change) := goodIn_app (goodIn_of _ (by decide +kernel)) ggX6_run_X5_change
set_option maxRecDepth 20000 in
theorem ggX6_run_X1_build : GoodIn wsX6_run wsX1_build := goodIn_r _ [101, 91, 102, 103, 104, 89, 105, 92, 106, 43, 44, 45, 107, 83, 84, 53, 85, 57, 62, 37, 9, 38, 63, 64, 65, 66, 67, 68, 69, 39, 40, 41, 1, 42, 143, 144, 145, 146, 157, 158, 159, 160, 161, 162] rfl (by decide +kernel)
set_option maxRecDepth 20000 in
theorem gX6_run_X1_build : GoodIn wsX6_run (wsV RX6 153 RX1 yX1_build wsX1_build) := goodIn_app (goodIn_of _ (by decide +kernel)) ggX6_run_X1_build
set_option maxRecDepth 20000 in
theorem ggX6_pop_X4_isControl : GoodIn wsX6_pop wsX4_isControl := goodIn_r _ [8, 9, 64, 65, 66, 67, 68, 69, 70, 71] rfl (by decide +kernel)
set_option maxRecDepth 20000 in
theorem gX6_pop_X4_isControl : GoodIn wsX6_pop (wsV RX6 65 RX4 yX4_isControl wsX4_isControl) := goodIn_app (goodIn_of _ (by decide +kernel)) ggX6_pop_X4_isControl
set_option maxRecDepth 20000 in
theorem ggX6_pop_X4_isSign : GoodIn wsX6_pop wsX4_isSign := goodIn_r _ [13, 14, 64, 65, 66, 67, 68, 69, 70, 71] rfl (by decide +kernel)
set_option maxRecDepth 20000 in
theorem gX6_pop_X4_isSign : GoodIn wsX6_pop (wsV RX6 69 RX4 yX4_isSign wsX4_isSign) := goodIn_app (goodIn_of _ (by decide +kernel)) ggX6_pop_X4_isSign
set_option maxRecDepth 20000 in
theorem ggX6_pop_X3_renew : GoodIn wsX6_pop wsX3_renew := goodIn_r _ [19, 20, 21, 22, 23, 24, 25, 26, 27, 28, 29, 18, 30, 31, 32, 33, 34, 35, 36, 37, 38, 39, 40, 41, 42, 43, 44, 45, 46, 47, 48, 49, 62, 63, 64, 65, 66, 67, 68, 69, 70, 71] rfl (by decide +kernel)
set_option maxRecDepth 20000 in
theorem gX6_pop_X3_renew : GoodIn wsX6_pop (wsV RX6 157 RX3 yX3_renew wsX3_renew) := goodIn_app (goodIn_of _ (by decide +kernel)) ggX6_pop_X3_renew
set_option maxRecDepth 20000 in
theorem ggX6_pop_X6_headOf : GoodIn wsX6_pop wsX6_headOf := goodIn_r _ [37] rfl (by decide +kernel)
set_option maxRecDepth 20000 in
theorem gX6_pop_X6_headOf : GoodIn wsX6_pop (va_wsS RX6 72 yX6_headOf wsX6_headOf) := goodIn_app (goodIn_of _ (by decide +kernel)) ggX6_pop_X6_headOf
set_option maxRecDepth 20000 in
theorem ggX6_pop_X6_told : GoodIn wsX6_pop wsX6_told := goodIn_r _ [53, 40, 54] rfl (by decide +kernel)
set_option maxRecDepth 20000 in
theorem gX6_pop_X6_told : GoodIn wsX6_pop (va_wsS RX6 143 yX6_told wsX6_told) := goodIn_app (goodIn_of _ (by decide +kernel)) ggX6_pop_X6_told
set_option maxRecDepth 20000 in
theorem ggX6_endless_X3_renew : GoodIn wsX6_endless wsX3_renew := goodIn_r _ [9, 10, 11, 12, 13, 14, 15, 16, 17, 18, 19, 8, 20, 21, 22, 23, 24, 25, 26, 27, 28, 29, 30, 31, 32, 33, 34, 35, 36, 37, 38, 39, 107, 108, 109, 110, 111, 112, 113, 114, 115, 116] rfl (by decide +kernel)
set_option maxRecDepth 20000 in
theorem gX6_endless_X3_renew : GoodIn wsX6_endless (wsV RX6 157 RX3 yX3_renew wsX3_renew) := goodIn_app (goodIn_of _ (by decide +kernel)) ggX6_endless_X3_renew
set_option maxRecDepth 20000 in
theorem ggX6_endless_X0_renew : GoodIn wsX6_endless wsX0_renew := goodIn_r _ [44, 45, 46, 47, 48, 43, 49, 50, 51, 52, 53, 54, 55, 56, 57, 58, 15, 59, 25, 26, 27, 60, 61, 62, 63, 64, 65, 66, 67, 68, 69, 70, 71, 72, 73, 74, 75, 76, 77, 78, 79, 80, 81, 82, 83, 84, 85, 86, 34, 87, 117, 118, 119, 120, 121, 122, 109, 110, 111, 112, 113, 114, 115, 116, 107, 108] rfl (by decide +kernel)
set_option maxRecDepth 20000 in
theorem gX6_endless_X0_renew : GoodIn wsX6_endless (wsV RX6 165 RX0 yX0_renew wsX0_renew) := goodIn_app (goodIn_of _ (by decide +kernel)) ggX6_endless_X0_renew
set_option maxRecDepth 20000 in
theorem ggX6_endless_X0_goOnFrom : GoodIn wsX6_endless wsX0_goOnFrom := goodIn_r _ [91, 70, 92, 93, 94, 43, 95, 64, 26, 65, 25, 27, 96, 97, 98, 99, 50, 123, 124, 125, 117, 118, 119, 120, 121, 122] rfl (by decide +kernel)
set_option maxRecDepth 20000 in
theorem gX6_endless_X0_goOnFrom : GoodIn wsX6_endless (wsV RX6 168 RX0 yX0_goOnFrom wsX0_goOnFrom) := goodIn_app (goodIn_of _ (by decide +kernel)) ggX6_endless_X0_goOnFrom
set_option maxRecDepth 20000 in
theorem ggX6_high_X3_renew : GoodIn wsX6_high wsX3_renew := goodIn_r _ [9, 10, 11, 12, 13, 14, 15, 16, 17, 18, 19, 8, 20, 21, 22, 23, 24, 25, 26, 27, 28, 29, 30, 31, 32, 33, 34, 35, 36, 37, 38, 39, 107, 108, 109, 110, 111, 112, 113, 114, 115, 116] rfl (by decide +kernel)
set_option maxRecDepth 20000 in
theorem gX6_high_X3_renew : GoodIn wsX6_high (wsV RX6 157 RX3 yX3_renew wsX3_renew) := goodIn_app (goodIn_of _ (by decide +kernel)) ggX6_high_X3_renew
set_option maxRecDepth 20000 in
theorem ggX6_high_X0_renew : GoodIn wsX6_high wsX0_renew := goodIn_r _ [44, 45, 46, 47, 48, 43, 49, 50, 51, 52, 53, 54, 55, 56, 57, 58, 15, 59, 25, 26, 27, 60, 61, 62, 63, 64, 65, 66, 67, 68, 69, 70, 71, 72, 73, 74, 75, 76, 77, 78, 79, 80, 81, 82, 83, 84, 85, 86, 34, 87, 117, 118, 119, 120, 121, 122, 109, 110, 111, 112, 113, 114, 115, 116, 107, 108] rfl (by decide +kernel)
set_option maxRecDepth 20000 in
theorem gX6_high_X0_renew : GoodIn wsX6_high (wsV RX6 165 RX0 yX0_renew wsX0_renew) := goodIn_app (goodIn_of _ (by decide +kernel)) ggX6_high_X0_renew
set_option maxRecDepth 20000 in
theorem ggX6_high_X0_topFrom : GoodIn wsX6_high wsX0_topFrom := goodIn_r _ [91, 71, 80, 85, 86, 34, 87, 92, 93, 94, 43, 95, 64, 26, 65, 25, 27, 96, 97, 98, 99, 50, 123, 124, 125, 117, 118, 119, 120, 121, 122] rfl (by decide +kernel)
set_option maxRecDepth 20000 in
theorem gX6_high_X0_topFrom : GoodIn wsX6_high (wsV RX6 171 RX0 yX0_topFrom wsX0_topFrom) := goodIn_app (goodIn_of _ (by decide +kernel)) ggX6_high_X0_topFrom
set_option maxRecDepth 20000 in
theorem ggX6_count_X5_head : GoodIn wsX6_count wsX5_head := goodIn_r _ [8, 9, 10, 11, 12, 13, 14, 37, 38, 39] rfl (by decide +kernel)
set_option maxRecDepth 20000 in
theorem gX6_count_X5_head : GoodIn wsX6_count (wsV RX6 100 RX5 yX5_head wsX5_head) := goodIn_app (goodIn_of _ (by decide +kernel)) ggX6_count_X5_head
set_option maxRecDepth 20000 in
theorem ggX6_count_X4_matching : GoodIn wsX6_count wsX4_matching := goodIn_r _ [19, 20, 21, 29, 30, 31, 32, 33, 34, 35, 36] rfl (by decide +kernel)
set_option maxRecDepth 20000 in
theorem gX6_count_X4_matching : GoodIn wsX6_count (wsV RX6 181 RX4 yX4_matching wsX4_matching) := goodIn_app (goodIn_of _ (by decide +kernel)) ggX6_count_X4_matching
set_option maxRecDepth 20000 in
theorem ggX6_isPlace_X4_isControl : GoodIn wsX6_isPlace wsX4_isControl := goodIn_r _ [6, 7, 15, 16, 17, 18, 19, 20, 21, 22] rfl (by decide +kernel)
set_option maxRecDepth 20000 in
theorem gX6_isPlace_X4_isControl : GoodIn wsX6_isPlace (wsV RX6 65 RX4 yX4_isControl wsX4_isControl) := goodIn_app (goodIn_of _ (by decide +kernel)) ggX6_isPlace_X4_isControl
set_option maxRecDepth 20000 in
theorem ggX6_distance_X3_renew : GoodIn wsX6_distance wsX3_renew := goodIn_r _ [10, 11, 12, 13, 14, 15, 16, 17, 18, 19, 20, 9, 21, 22, 23, 24, 25, 26, 27, 28, 29, 30, 31, 32, 33, 34, 35, 36, 37, 38, 39, 40, 110, 111, 112, 113, 114, 115, 116, 117, 118, 119] rfl (by decide +kernel)
set_option maxRecDepth 20000 in
theorem gX6_distance_X3_renew : GoodIn wsX6_distance (wsV RX6 157 RX3 yX3_renew wsX3_renew) := goodIn_app (goodIn_of _ (by decide +kernel)) ggX6_distance_X3_renew
set_option maxRecDepth 20000 in
theorem ggX6_distance_X2_renew : GoodIn wsX6_distance wsX2_renew := goodIn_r _ [45, 46, 47, 48, 49, 50, 51, 44, 52, 53, 54, 55, 56, 57, 58, 59, 27, 60, 61, 62, 63, 64, 26, 28, 29, 30, 31, 32, 33, 34, 35, 36, 65, 66, 67, 68, 69, 70, 71, 72, 73, 74, 75, 76, 120, 121, 122, 123, 124, 125, 112, 113, 114, 115, 116, 117, 118, 119, 110, 111] rfl (by decide +kernel)
set_option maxRecDepth 20000 in
theorem gX6_distance_X2_renew : GoodIn wsX6_distance (wsV RX6 195 RX2 yX2_renew wsX2_renew) := goodIn_app (goodIn_of _ (by decide +kernel)) ggX6_distance_X2_renew
set_option maxRecDepth 20000 in
theorem ggX6_distance_X1_start : GoodIn wsX6_distance wsX1_start := goodIn_r _ [81, 82, 83, 84, 85, 86, 44, 87, 88, 59, 27, 60, 106, 120, 121, 122, 123, 124, 125] rfl (by decide +kernel)
set_option maxRecDepth 20000 in
theorem gX6_distance_X1_start : GoodIn wsX6_distance (wsV RX6 196 RX1 yX1_start wsX1_start) := goodIn_app (goodIn_of _ (by decide +kernel)) ggX6_distance_X1_start
set_option maxRecDepth 20000 in
theorem ggX6_distance_X1_build : GoodIn wsX6_distance wsX1_build := goodIn_r _ [92, 82, 93, 94, 95, 80, 96, 83, 97, 34, 35, 36, 98, 74, 75, 44, 76, 48, 53, 26, 27, 28, 54, 55, 56, 57, 58, 59, 60, 29, 30, 31, 32, 33, 107, 108, 109, 106, 120, 121, 122, 123, 124, 125] rfl (by decide +kernel)
set_option maxRecDepth 20000 in
theorem gX6_distance_X1_build : GoodIn wsX6_distance (wsV RX6 153 RX1 yX1_build wsX1_build) := goodIn_app (goodIn_of _ (by decide +kernel)) ggX6_distance_X1_build
set_option maxRecDepth 20000 in
theorem ggX6_nearing_X5_head : GoodIn wsX6_nearing wsX5_head := goodIn_r _ [9, 10, 11, 12, 13, 14, 15, 65, 66, 67] rfl (by decide +kernel)
set_option maxRecDepth 20000 in
theorem gX6_nearing_X5_head : GoodIn wsX6_nearing (wsV RX6 100 RX5 yX5_head wsX5_head) := goodIn_app (goodIn_of _ (by decide +kernel)) ggX6_nearing_X5_head
set_option maxRecDepth 20000 in
theorem ggX6_nearing_X1_after : GoodIn wsX6_nearing wsX1_after := goodIn_r _ [20, 21, 22, 23, 24, 25, 26, 27, 28, 29, 19, 30, 31, 32, 33, 34, 35, 36, 37, 13, 14, 15, 38, 39, 40, 41, 42, 43, 44, 45, 46, 47, 48, 49, 57, 58, 59, 60, 61, 62, 63, 64, 68, 69, 70, 71, 72, 73, 74] rfl (by decide +kernel)
set_option maxRecDepth 20000 in
theorem gX6_nearing_X1_after : GoodIn wsX6_nearing (wsV RX6 203 RX1 yX1_after wsX1_after) := goodIn_app (goodIn_of _ (by decide +kernel)) ggX6_nearing_X1_after
set_option maxRecDepth 20000 in
theorem ggX7_isControl_X7_isIn : GoodIn wsX7_isControl wsX7_isIn := goodIn_r _ [5] rfl (by decide +kernel)
set_option maxRecDepth 20000 in
theorem gX7_isControl_X7_isIn : GoodIn wsX7_isControl (va_wsS RX7 73 yX7_isIn wsX7_isIn) := goodIn_app (goodIn_of _ (by decide +kernel)) ggX7_isControl_X7_isIn
set_option maxRecDepth 20000 in
theorem ggX7_isSign_X7_isIn : GoodIn wsX7_isSign wsX7_isIn := goodIn_r _ [5] rfl (by decide +kernel)
set_option maxRecDepth 20000 in
theorem gX7_isSign_X7_isIn : GoodIn wsX7_isSign (va_wsS RX7 73 yX7_isIn wsX7_isIn) := goodIn_app (goodIn_of _ (by decide +kernel)) ggX7_isSign_X7_isIn
set_option maxRecDepth 20000 in
theorem ggX7_machine_X7_isIn : GoodIn wsX7_machine wsX7_isIn := goodIn_r _ [11] rfl (by decide +kernel)
set_option maxRecDepth 20000 in
theorem gX7_machine_X7_isIn : GoodIn wsX7_machine (va_wsS RX7 73 yX7_isIn wsX7_isIn) := goodIn_app (goodIn_of _ (by decide +kernel)) ggX7_machine_X7_isIn
set_option maxRecDepth 20000 in
theorem ggX7_rule_X7_isControl : GoodIn wsX7_rule wsX7_isControl := goodIn_r _ [11, 12, 13, 14, 10, 15, 21, 22, 23, 24, 25, 26, 27, 28, 29, 30, 31, 32, 33, 34, 35, 36, 37, 38, 39, 40, 41, 42, 43, 44, 45] rfl (by decide +kernel)
set_option maxRecDepth 20000 in
theorem gX7_rule_X7_isControl : GoodIn wsX7_rule (wsV RX7 91 RX7 yX7_isControl wsX7_isControl) := goodIn_app (goodIn_of _ (by decide +kernel)) ggX7_rule_X7_isControl
set_option maxRecDepth 20000 in
theorem ggX7_rule_X7_isSign : GoodIn wsX7_rule wsX7_isSign := goodIn_r _ [19, 20, 13, 14, 10, 15, 21, 22, 23, 24, 25, 26, 27, 28, 29, 30, 31, 32, 33, 34, 35, 36, 37, 38, 39, 40, 41, 42, 43, 44, 45] rfl (by decide +kernel)
set_option maxRecDepth 20000 in
theorem gX7_rule_X7_isSign : GoodIn wsX7_rule (wsV RX7 95 RX7 yX7_isSign wsX7_isSign) := goodIn_app (goodIn_of _ (by decide +kernel)) ggX7_rule_X7_isSign
set_option maxRecDepth 20000 in
theorem ggX7_stand_X7_isControl : GoodIn wsX7_stand wsX7_isControl := goodIn_r _ [7, 8, 9, 10, 6, 11, 12, 13, 14, 15, 16, 17, 18, 19, 20, 21, 22, 23, 24, 25, 26, 27, 28, 29, 30, 31, 32, 33, 34, 35, 36] rfl (by decide +kernel)
set_option maxRecDepth 20000 in
theorem gX7_stand_X7_isControl : GoodIn wsX7_stand (wsV RX7 91 RX7 yX7_isControl wsX7_isControl) := goodIn_app (goodIn_of _ (by decide +kernel)) ggX7_stand_X7_isControl
set_option maxRecDepth 20000 in
theorem ggX7_push_X7_isSign : GoodIn wsX7_push wsX7_isSign := goodIn_r _ [7, 8, 9, 10, 6, 11, 12, 13, 14, 15, 16, 17, 18, 19, 20, 21, 22, 23, 24, 25, 26, 27, 28, 29, 30, 31, 32, 33, 34, 35, 36] rfl (by decide +kernel)
set_option maxRecDepth 20000 in
theorem gX7_push_X7_isSign : GoodIn wsX7_push (wsV RX7 95 RX7 yX7_isSign wsX7_isSign) := goodIn_app (goodIn_of _ (by decide +kernel)) ggX7_push_X7_isSign
set_option maxRecDepth 20000 in
theorem ggX7_at_X7_isIn : GoodIn wsX7_at wsX7_isIn := goodIn_r _ [7] rfl (by decide +kernel)
set_option maxRecDepth 20000 in
theorem gX7_at_X7_isIn : GoodIn wsX7_at (va_wsS RX7 73 yX7_isIn wsX7_isIn) := goodIn_app (goodIn_of _ (by decide +kernel)) ggX7_at_X7_isIn
set_option maxRecDepth 20000 in
theorem ggX7_does_X7_puts : GoodIn wsX7_does wsX7_puts := goodIn_r _ [11, 4, 3, 12, 13, 14, 15, 16, 17, 18, 19, 20, 21, 22, 23, 24, 25, 26, 27, 28, 29, 30, 31, 32, 33, 34, 35, 36] rfl (by decide +kernel)
set_option maxRecDepth 20000 in
theorem gX7_does_X7_puts : GoodIn wsX7_does (wsV RX7 98 RX7 yX7_puts wsX7_puts) := goodIn_app (goodIn_of _ (by decide +kernel)) ggX7_does_X7_puts
end
section
set_option maxRecDepth 20000 in
theorem ggX7_go_X7_isIn : GoodIn wsX7_go wsX7_isIn := goodIn_r _ [6] rfl (by decide +kernel)
set_option maxRecDepth 20000 in
theorem gX7_go_X7_isIn : GoodIn wsX7_go (va_wsS RX7 73 yX7_isIn wsX7_isIn) := goodIn_app (goodIn_of _ (by decide +kernel)) ggX7_go_X7_isIn
set_option maxRecDepth 20000 in
theorem ggX7_go_X7_goes : GoodIn wsX7_go wsX7_goes := goodIn_r _ [10, 2, 11, 12, 13, 14, 26, 27, 28, 29, 30, 31, 32, 33, 34, 35, 36, 37, 38, 39, 40, 41, 42, 43, 44, 45, 46, 47, 48, 49, 50] rfl (by decide +kernel)
set_option maxRecDepth 20000 in
theorem gX7_go_X7_goes : GoodIn wsX7_go (wsV RX7 102 RX7 yX7_goes wsX7_goes) := goodIn_app (goodIn_of _ (by decide +kernel)) ggX7_go_X7_goes
set_option maxRecDepth 20000 in
theorem ggX7_go_X7_puts : GoodIn wsX7_go wsX7_puts := goodIn_r _ [18, 19, 20, 26, 27, 28, 29, 30, 31, 32, 33, 34, 35, 36, 37, 38, 39, 40, 41, 42, 43, 44, 45, 46, 47, 48, 49, 50] rfl (by decide +kernel)
set_option maxRecDepth 20000 in
theorem gX7_go_X7_puts : GoodIn wsX7_go (wsV RX7 98 RX7 yX7_puts wsX7_puts) := goodIn_app (goodIn_of _ (by decide +kernel)) ggX7_go_X7_puts
set_option maxRecDepth 20000 in
theorem ggX7_go_X7_does : GoodIn wsX7_go wsX7_does := goodIn_r _ [24, 2, 14, 20, 19, 25, 12, 15, 16, 17, 5, 18, 26, 27, 28, 29, 30, 31, 32, 33, 34, 35, 36, 37, 38, 39, 40, 41, 42, 43, 44, 45, 46, 47, 48, 49, 50] rfl (by decide +kernel)
set_option maxRecDepth 20000 in
theorem gX7_go_X7_does : GoodIn wsX7_go (wsV RX7 105 RX7 yX7_does wsX7_does) := goodIn_app (goodIn_of _ (by decide +kernel)) ggX7_go_X7_does
set_option maxRecDepth 20000 in
theorem ggX7_isSet_X7_isIn : GoodIn wsX7_isSet wsX7_isIn := goodIn_r _ [5] rfl (by decide +kernel)
set_option maxRecDepth 20000 in
theorem gX7_isSet_X7_isIn : GoodIn wsX7_isSet (va_wsS RX7 73 yX7_isIn wsX7_isIn) := goodIn_app (goodIn_of _ (by decide +kernel)) ggX7_isSet_X7_isIn
set_option maxRecDepth 20000 in
theorem ggX7_isPlace_X7_isControl : GoodIn wsX7_isPlace wsX7_isControl := goodIn_r _ [6, 7, 8, 9, 5, 10, 11, 12, 13, 14, 15, 16, 17, 18, 19, 20, 21, 22, 23, 24, 25, 26, 27, 28, 29, 30, 31, 32, 33, 34, 35] rfl (by decide +kernel)
set_option maxRecDepth 20000 in
theorem gX7_isPlace_X7_isControl : GoodIn wsX7_isPlace (wsV RX7 91 RX7 yX7_isControl wsX7_isControl) := goodIn_app (goodIn_of _ (by decide +kernel)) ggX7_isPlace_X7_isControl
set_option maxRecDepth 20000 in
theorem ggX7_isPlace_X7_isIn : GoodIn wsX7_isPlace wsX7_isIn := goodIn_r _ [10] rfl (by decide +kernel)
set_option maxRecDepth 20000 in
theorem gX7_isPlace_X7_isIn : GoodIn wsX7_isPlace (va_wsS RX7 73 yX7_isIn wsX7_isIn) := goodIn_app (goodIn_of _ (by decide +kernel)) ggX7_isPlace_X7_isIn
set_option maxRecDepth 20000 in
theorem ggX7_link_X7_isSet : GoodIn wsX7_link wsX7_isSet := goodIn_r _ [10, 11, 12, 13, 9, 14, 29, 30, 31, 32, 33, 34, 35, 36, 37, 38, 39, 40, 41, 42, 43, 44, 45, 46, 47, 48, 49, 50, 51, 52, 53] rfl (by decide +kernel)
set_option maxRecDepth 20000 in
theorem gX7_link_X7_isSet : GoodIn wsX7_link (wsV RX7 109 RX7 yX7_isSet wsX7_isSet) := goodIn_app (goodIn_of _ (by decide +kernel)) ggX7_link_X7_isSet
set_option maxRecDepth 20000 in
theorem ggX7_link_X7_isPlace : GoodIn wsX7_link wsX7_isPlace := goodIn_r _ [18, 1, 19, 20, 21, 9, 22, 23, 12, 13, 14, 29, 30, 31, 32, 33, 34, 35, 36, 37, 38, 39, 40, 41, 42, 43, 44, 45, 46, 47, 48, 49, 50, 51, 52, 53] rfl (by decide +kernel)
set_option maxRecDepth 20000 in
theorem gX7_link_X7_isPlace : GoodIn wsX7_link (wsV RX7 112 RX7 yX7_isPlace wsX7_isPlace) := goodIn_app (goodIn_of _ (by decide +kernel)) ggX7_link_X7_isPlace
set_option maxRecDepth 20000 in
theorem ggX7_link_X7_isSign : GoodIn wsX7_link wsX7_isSign := goodIn_r _ [27, 28, 12, 13, 9, 14, 29, 30, 31, 32, 33, 34, 35, 36, 37, 38, 39, 40, 41, 42, 43, 44, 45, 46, 47, 48, 49, 50, 51, 52, 53] rfl (by decide +kernel)
set_option maxRecDepth 20000 in
theorem gX7_link_X7_isSign : GoodIn wsX7_link (wsV RX7 95 RX7 yX7_isSign wsX7_isSign) := goodIn_app (goodIn_of _ (by decide +kernel)) ggX7_link_X7_isSign
set_option maxRecDepth 20000 in
theorem ggX7_link_X7_isIn : GoodIn wsX7_link wsX7_isIn := goodIn_r _ [14] rfl (by decide +kernel)
set_option maxRecDepth 20000 in
theorem gX7_link_X7_isIn : GoodIn wsX7_link (va_wsS RX7 73 yX7_isIn wsX7_isIn) := goodIn_app (goodIn_of _ (by decide +kernel)) ggX7_link_X7_isIn
set_option maxRecDepth 20000 in
theorem ggX7_last_X7_isSet : GoodIn wsX7_last wsX7_isSet := goodIn_r _ [6, 7, 8, 9, 5, 10, 21, 22, 23, 24, 25, 26, 27, 28, 29, 30, 31, 32, 33, 34, 35, 36, 37, 38, 39, 40, 41, 42, 43, 44, 45] rfl (by decide +kernel)
set_option maxRecDepth 20000 in
theorem gX7_last_X7_isSet : GoodIn wsX7_last (wsV RX7 109 RX7 yX7_isSet wsX7_isSet) := goodIn_app (goodIn_of _ (by decide +kernel)) ggX7_last_X7_isSet
set_option maxRecDepth 20000 in
theorem ggX7_last_X7_isPlace : GoodIn wsX7_last wsX7_isPlace := goodIn_r _ [14, 15, 16, 17, 18, 5, 19, 20, 8, 9, 10, 21, 22, 23, 24, 25, 26, 27, 28, 29, 30, 31, 32, 33, 34, 35, 36, 37, 38, 39, 40, 41, 42, 43, 44, 45] rfl (by decide +kernel)
set_option maxRecDepth 20000 in
theorem gX7_last_X7_isPlace : GoodIn wsX7_last (wsV RX7 112 RX7 yX7_isPlace wsX7_isPlace) := goodIn_app (goodIn_of _ (by decide +kernel)) ggX7_last_X7_isPlace
set_option maxRecDepth 20000 in
theorem ggX7_holds_X7_isLinked : GoodIn wsX7_holds wsX7_isLinked := goodIn_r _ [9, 10, 11, 12, 13, 14, 15, 16, 17, 18, 19, 20, 21, 22, 23, 24, 25, 26, 27, 28, 29, 30, 31, 32, 33, 34, 35, 36, 37, 38] rfl (by decide +kernel)
set_option maxRecDepth 20000 in
theorem gX7_holds_X7_isLinked : GoodIn wsX7_holds (wsV RX7 116 RX7 yX7_isLinked wsX7_isLinked) := goodIn_app (goodIn_of _ (by decide +kernel)) ggX7_holds_X7_isLinked
set_option maxRecDepth 20000 in
theorem ggX7_in_X7_isSet : GoodIn wsX7_in wsX7_isSet := goodIn_r _ [5, 6, 7, 8, 4, 9, 26, 27, 28, 29, 30, 31, 32, 33, 34, 35, 36, 37, 38, 39, 40, 41, 42, 43, 44, 45, 46, 47, 48, 49, 50] rfl (by decide +kernel)
set_option maxRecDepth 20000 in
theorem gX7_in_X7_isSet : GoodIn wsX7_in (wsV RX7 109 RX7 yX7_isSet wsX7_isSet) := goodIn_app (goodIn_of _ (by decide +kernel)) ggX7_in_X7_isSet
set_option maxRecDepth 20000 in
theorem ggX7_in_X7_holds : GoodIn wsX7_in wsX7_holds := goodIn_r _ [13, 14, 15, 16, 17, 18, 19, 20, 4, 21, 22, 23, 24, 25, 26, 27, 28, 29, 30, 31, 32, 33, 34, 35, 36, 37, 38, 39, 40, 41, 42, 43, 44, 45, 46, 47, 48, 49, 50] rfl (by decide +kernel)
set_option maxRecDepth 20000 in
theorem gX7_in_X7_holds : GoodIn wsX7_in (wsV RX7 120 RX7 yX7_holds wsX7_holds) := goodIn_app (goodIn_of _ (by decide +kernel)) ggX7_in_X7_holds
set_option maxRecDepth 20000 in
theorem ggX7_reading_X7_costAt : GoodIn wsX7_reading wsX7_costAt := goodIn_r _ [7] rfl (by decide +kernel)
set_option maxRecDepth 20000 in
theorem gX7_reading_X7_costAt : GoodIn wsX7_reading (va_wsS RX7 127 yX7_costAt wsX7_costAt) := goodIn_app (goodIn_of _ (by decide +kernel)) ggX7_reading_X7_costAt
set_option maxRecDepth 20000 in
theorem ggX7_byRule_X7_puts : GoodIn wsX7_byRule wsX7_puts := goodIn_r _ [9, 3, 4, 26, 27, 28, 29, 30, 31, 32, 33, 34, 35, 36, 37, 38, 39, 40, 41, 42, 43, 44, 45, 46, 47, 48, 49, 50] rfl (by decide +kernel)
set_option maxRecDepth 20000 in
theorem gX7_byRule_X7_puts : GoodIn wsX7_byRule (wsV RX7 98 RX7 yX7_puts wsX7_puts) := goodIn_app (goodIn_of _ (by decide +kernel)) ggX7_byRule_X7_puts
set_option maxRecDepth 20000 in
theorem ggX7_byRule_X7_reading : GoodIn wsX7_byRule wsX7_reading := goodIn_r _ [13, 14, 15, 2, 16, 17, 8, 18, 26, 27, 28, 29, 30, 31, 32, 33, 34, 35, 36, 37, 38, 39, 40, 41, 42, 43, 44, 45, 46, 47, 48, 49, 50] rfl (by decide +kernel)
set_option maxRecDepth 20000 in
theorem gX7_byRule_X7_reading : GoodIn wsX7_byRule (wsV RX7 131 RX7 yX7_reading wsX7_reading) := goodIn_app (goodIn_of _ (by decide +kernel)) ggX7_byRule_X7_reading
set_option maxRecDepth 20000 in
theorem ggX7_byRule_X7_plus : GoodIn wsX7_byRule wsX7_plus := goodIn_r _ [21, 2, 22] rfl (by decide +kernel)
set_option maxRecDepth 20000 in
theorem gX7_byRule_X7_plus : GoodIn wsX7_byRule (va_wsS RX7 135 yX7_plus wsX7_plus) := goodIn_app (goodIn_of _ (by decide +kernel)) ggX7_byRule_X7_plus
set_option maxRecDepth 20000 in
theorem ggX7_byRule_X7_lesser : GoodIn wsX7_byRule wsX7_lesser := goodIn_r _ [25] rfl (by decide +kernel)
set_option maxRecDepth 20000 in
theorem gX7_byRule_X7_lesser : GoodIn wsX7_byRule (va_wsS RX7 139 yX7_lesser wsX7_lesser) := goodIn_app (goodIn_of _ (by decide +kernel)) ggX7_byRule_X7_lesser
set_option maxRecDepth 20000 in
theorem ggX7_findCosts_X7_isLinked : GoodIn wsX7_findCosts wsX7_isLinked := goodIn_r _ [12, 13, 14, 15, 16, 50, 51, 52, 53, 54, 55, 56, 57, 58, 59, 60, 61, 62, 63, 64, 65, 66, 67, 68, 69, 70, 71, 72, 73, 74] rfl (by decide +kernel)
set_option maxRecDepth 20000 in
theorem gX7_findCosts_X7_isLinked : GoodIn wsX7_findCosts (wsV RX7 116 RX7 yX7_isLinked wsX7_isLinked) := goodIn_app (goodIn_of _ (by decide +kernel)) ggX7_findCosts_X7_isLinked
set_option maxRecDepth 20000 in
theorem ggX7_findCosts_X7_costAt : GoodIn wsX7_findCosts wsX7_costAt := goodIn_r _ [19] rfl (by decide +kernel)
set_option maxRecDepth 20000 in
theorem gX7_findCosts_X7_costAt : GoodIn wsX7_findCosts (va_wsS RX7 127 yX7_costAt wsX7_costAt) := goodIn_app (goodIn_of _ (by decide +kernel)) ggX7_findCosts_X7_costAt
set_option maxRecDepth 20000 in
theorem ggX7_findCosts_X7_settle : GoodIn wsX7_findCosts wsX7_settle := goodIn_r _ [23, 4, 24, 25, 26, 27, 5, 3, 17, 18, 11, 19, 28, 29, 30, 31, 32, 33, 34, 35, 36, 37, 38, 39, 40, 41, 42, 2, 43, 44, 45, 46, 47, 48, 49, 50, 51, 52, 53, 54, 55, 56, 57, 58, 59, 60, 61, 62, 63, 64, 65, 66, 67, 68, 69, 70, 71, 72, 73, 74] rfl (by decide +kernel)
set_option maxRecDepth 20000 in
theorem gX7_findCosts_X7_settle : GoodIn wsX7_findCosts (wsV RX7 145 RX7 yX7_settle wsX7_settle) := goodIn_app (goodIn_of _ (by decide +kernel)) ggX7_findCosts_X7_settle
set_option maxRecDepth 20000 in
theorem ggX7_settle_X7_costAt : GoodIn wsX7_settle wsX7_costAt := goodIn_r _ [11] rfl (by decide +kernel)
set_option maxRecDepth 20000 in
theorem gX7_settle_X7_costAt : GoodIn wsX7_settle (va_wsS RX7 127 yX7_costAt wsX7_costAt) := goodIn_app (goodIn_of _ (by decide +kernel)) ggX7_settle_X7_costAt
set_option maxRecDepth 20000 in
theorem ggX7_settle_X7_byRule : GoodIn wsX7_settle wsX7_byRule := goodIn_r _ [15, 16, 1, 17, 18, 19, 20, 21, 10, 22, 23, 24, 25, 26, 7, 27, 8, 9, 11, 28, 29, 30, 31, 32, 33, 34, 35, 36, 37, 38, 39, 40, 41, 42, 43, 44, 45, 46, 47, 48, 49, 50, 51, 52, 53, 54, 55, 56, 57, 58, 59] rfl (by decide +kernel)
set_option maxRecDepth 20000 in
theorem gX7_settle_X7_byRule : GoodIn wsX7_settle (wsV RX7 149 RX7 yX7_byRule wsX7_byRule) := goodIn_app (goodIn_of _ (by decide +kernel)) ggX7_settle_X7_byRule
set_option maxRecDepth 20000 in
theorem ggX7_settle_X7_lesser : GoodIn wsX7_settle wsX7_lesser := goodIn_r _ [34] rfl (by decide +kernel)
set_option maxRecDepth 20000 in
theorem gX7_settle_X7_lesser : GoodIn wsX7_settle (va_wsS RX7 139 yX7_lesser wsX7_lesser) := goodIn_app (goodIn_of _ (by decide +kernel)) ggX7_settle_X7_lesser
set_option maxRecDepth 20000 in
theorem ggX7_readStack_X7_reading : GoodIn wsX7_readStack wsX7_reading := goodIn_r _ [11, 12, 13, 4, 14, 15, 10, 16, 24, 25, 26, 27, 28, 29, 30, 31, 32, 33, 34, 35, 36, 37, 38, 39, 40, 41, 42, 43, 44, 45, 46, 47, 48] rfl (by decide +kernel)
set_option maxRecDepth 20000 in
theorem gX7_readStack_X7_reading : GoodIn wsX7_readStack (wsV RX7 131 RX7 yX7_reading wsX7_reading) := goodIn_app (goodIn_of _ (by decide +kernel)) ggX7_readStack_X7_reading
set_option maxRecDepth 20000 in
theorem ggX7_readStack_X7_plus : GoodIn wsX7_readStack wsX7_plus := goodIn_r _ [19, 4, 20] rfl (by decide +kernel)
set_option maxRecDepth 20000 in
theorem gX7_readStack_X7_plus : GoodIn wsX7_readStack (va_wsS RX7 135 yX7_plus wsX7_plus) := goodIn_app (goodIn_of _ (by decide +kernel)) ggX7_readStack_X7_plus
set_option maxRecDepth 20000 in
theorem ggX7_readStack_X7_lesser : GoodIn wsX7_readStack wsX7_lesser := goodIn_r _ [23] rfl (by decide +kernel)
set_option maxRecDepth 20000 in
theorem gX7_readStack_X7_lesser : GoodIn wsX7_readStack (va_wsS RX7 139 yX7_lesser wsX7_lesser) := goodIn_app (goodIn_of _ (by decide +kernel)) ggX7_readStack_X7_lesser
set_option maxRecDepth 20000 in
theorem ggX7_farNow_X7_readStack : GoodIn wsX7_farNow wsX7_readStack := goodIn_r _ [8, 1, 9, 10, 11, 2, 12, 13, 14, 15, 7, 16, 17, 18, 19, 20, 21, 22, 23, 24, 25, 26, 27, 28, 29, 30, 31, 32, 33, 34, 35, 36, 37, 38, 39, 40, 41, 42, 43, 44, 45, 46, 47, 48, 49, 50, 51, 52, 53] rfl (by decide +kernel)
set_option maxRecDepth 20000 in
theorem gX7_farNow_X7_readStack : GoodIn wsX7_farNow (wsV RX7 153 RX7 yX7_readStack wsX7_readStack) := goodIn_app (goodIn_of _ (by decide +kernel)) ggX7_farNow_X7_readStack
set_option maxRecDepth 20000 in
theorem ggX7_far_X7_isSet : GoodIn wsX7_far wsX7_isSet := goodIn_r _ [6, 7, 8, 9, 5, 10, 76, 77, 78, 79, 80, 81, 82, 83, 84, 85, 86, 87, 88, 89, 90, 91, 92, 93, 94, 95, 96, 97, 98, 99, 100] rfl (by decide +kernel)
set_option maxRecDepth 20000 in
theorem gX7_far_X7_isSet : GoodIn wsX7_far (wsV RX7 109 RX7 yX7_isSet wsX7_isSet) := goodIn_app (goodIn_of _ (by decide +kernel)) ggX7_far_X7_isSet
set_option maxRecDepth 20000 in
theorem ggX7_far_X7_findCosts : GoodIn wsX7_far wsX7_findCosts := goodIn_r _ [14, 15, 16, 17, 18, 19, 20, 21, 22, 23, 24, 5, 25, 26, 27, 28, 29, 30, 31, 32, 33, 34, 35, 36, 37, 38, 39, 40, 41, 42, 43, 44, 45, 46, 47, 48, 49, 50, 51, 52, 53, 54, 55, 56, 57, 58, 59, 60, 61, 62, 76, 77, 78, 79, 80, 81, 82, 83, 84, 85, 86, 87, 88, 89, 90, 91, 92, 93, 94, 95, 96, 97, 98, 99, 100] rfl (by decide +kernel)
set_option maxRecDepth 20000 in
theorem gX7_far_X7_findCosts : GoodIn wsX7_far (wsV RX7 158 RX7 yX7_findCosts wsX7_findCosts) := goodIn_app (goodIn_of _ (by decide +kernel)) ggX7_far_X7_findCosts
set_option maxRecDepth 20000 in
theorem ggX7_far_X7_farNow : GoodIn wsX7_far wsX7_farNow := goodIn_r _ [66, 67, 68, 69, 70, 71, 72, 5, 73, 74, 15, 18, 75, 52, 53, 54, 55, 17, 16, 30, 31, 32, 56, 57, 58, 59, 60, 61, 62, 76, 77, 78, 79, 80, 81, 82, 83, 84, 85, 86, 87, 88, 89, 90, 91, 92, 93, 94, 95, 96, 97, 98, 99, 100] rfl (by decide +kernel)
set_option maxRecDepth 20000 in
theorem gX7_far_X7_farNow : GoodIn wsX7_far (wsV RX7 161 RX7 yX7_farNow wsX7_farNow) := goodIn_app (goodIn_of _ (by decide +kernel)) ggX7_far_X7_farNow
set_option maxRecDepth 20000 in
theorem ggX7_nextRule_X7_goes : GoodIn wsX7_nextRule wsX7_goes := goodIn_r _ [9, 4, 10, 11, 12, 13, 41, 42, 43, 44, 45, 46, 47, 48, 49, 50, 51, 52, 53, 54, 55, 56, 57, 58, 59, 60, 61, 62, 63, 64, 65] rfl (by decide +kernel)
set_option maxRecDepth 20000 in
theorem gX7_nextRule_X7_goes : GoodIn wsX7_nextRule (wsV RX7 102 RX7 yX7_goes wsX7_goes) := goodIn_app (goodIn_of _ (by decide +kernel)) ggX7_nextRule_X7_goes
set_option maxRecDepth 20000 in
theorem ggX7_nextRule_X7_byRule : GoodIn wsX7_nextRule wsX7_byRule := goodIn_r _ [17, 18, 2, 19, 20, 21, 22, 23, 8, 24, 25, 26, 27, 28, 29, 30, 31, 32, 33, 34, 35, 36, 37, 38, 39, 40, 41, 42, 43, 44, 45, 46, 47, 48, 49, 50, 51, 52, 53, 54, 55, 56, 57, 58, 59, 60, 61, 62, 63, 64, 65] rfl (by decide +kernel)
set_option maxRecDepth 20000 in
theorem gX7_nextRule_X7_byRule : GoodIn wsX7_nextRule (wsV RX7 149 RX7 yX7_byRule wsX7_byRule) := goodIn_app (goodIn_of _ (by decide +kernel)) ggX7_nextRule_X7_byRule
set_option maxRecDepth 20000 in
theorem ggX7_nextRule_X7_plus : GoodIn wsX7_nextRule wsX7_plus := goodIn_r _ [36, 2, 37] rfl (by decide +kernel)
set_option maxRecDepth 20000 in
theorem gX7_nextRule_X7_plus : GoodIn wsX7_nextRule (va_wsS RX7 135 yX7_plus wsX7_plus) := goodIn_app (goodIn_of _ (by decide +kernel)) ggX7_nextRule_X7_plus
set_option maxRecDepth 20000 in
theorem ggX7_nextRule_X7_lesser : GoodIn wsX7_nextRule wsX7_lesser := goodIn_r _ [40] rfl (by decide +kernel)
set_option maxRecDepth 20000 in
theorem gX7_nextRule_X7_lesser : GoodIn wsX7_nextRule (va_wsS RX7 139 yX7_lesser wsX7_lesser) := goodIn_app (goodIn_of _ (by decide +kernel)) ggX7_nextRule_X7_lesser
set_option maxRecDepth 20000 in
theorem ggX7_step_X7_isSet : GoodIn wsX7_step wsX7_isSet := goodIn_r _ [7, 8, 9, 10, 6, 11, 87, 88, 89, 90, 91, 92, 93, 94, 95, 96, 97, 98, 99, 100, 101, 102, 103, 104, 105, 106, 107, 108, 109, 110, 111] rfl (by decide +kernel)
set_option maxRecDepth 20000 in
theorem gX7_step_X7_isSet : GoodIn wsX7_step (wsV RX7 109 RX7 yX7_isSet wsX7_isSet) := goodIn_app (goodIn_of _ (by decide +kernel)) ggX7_step_X7_isSet
set_option maxRecDepth 20000 in
theorem ggX7_step_X7_findCosts : GoodIn wsX7_step wsX7_findCosts := goodIn_r _ [15, 16, 17, 18, 19, 20, 21, 22, 23, 24, 25, 6, 26, 27, 28, 29, 30, 31, 32, 33, 34, 35, 36, 37, 38, 39, 40, 41, 42, 43, 44, 45, 46, 47, 48, 49, 50, 51, 52, 53, 54, 55, 56, 57, 58, 59, 1, 60, 61, 62, 87, 88, 89, 90, 91, 92, 93, 94, 95, 96, 97, 98, 99, 100, 101, 102, 103, 104, 105, 106, 107, 108, 109, 110, 111] rfl (by decide +kernel)
set_option maxRecDepth 20000 in
theorem gX7_step_X7_findCosts : GoodIn wsX7_step (wsV RX7 158 RX7 yX7_findCosts wsX7_findCosts) := goodIn_app (goodIn_of _ (by decide +kernel)) ggX7_step_X7_findCosts
set_option maxRecDepth 20000 in
theorem ggX7_step_X7_farNow : GoodIn wsX7_step wsX7_farNow := goodIn_r _ [66, 67, 2, 68, 69, 70, 71, 6, 72, 73, 16, 19, 74, 53, 54, 55, 56, 18, 17, 31, 32, 33, 57, 58, 59, 1, 60, 61, 62, 87, 88, 89, 90, 91, 92, 93, 94, 95, 96, 97, 98, 99, 100, 101, 102, 103, 104, 105, 106, 107, 108, 109, 110, 111] rfl (by decide +kernel)
set_option maxRecDepth 20000 in
theorem gX7_step_X7_farNow : GoodIn wsX7_step (wsV RX7 161 RX7 yX7_farNow wsX7_farNow) := goodIn_app (goodIn_of _ (by decide +kernel)) ggX7_step_X7_farNow
set_option maxRecDepth 20000 in
theorem ggX7_step_X7_nextRule : GoodIn wsX7_step wsX7_nextRule := goodIn_r _ [78, 39, 19, 67, 2, 79, 80, 81, 6, 82, 40, 68, 41, 74, 42, 43, 44, 45, 46, 47, 48, 49, 50, 51, 52, 53, 54, 55, 56, 18, 17, 31, 32, 33, 57, 58, 59, 1, 60, 61, 62, 87, 88, 89, 90, 91, 92, 93, 94, 95, 96, 97, 98, 99, 100, 101, 102, 103, 104, 105, 106, 107, 108, 109, 110, 111] rfl (by decide +kernel)
set_option maxRecDepth 20000 in
theorem gX7_step_X7_nextRule : GoodIn wsX7_step (wsV RX7 165 RX7 yX7_nextRule wsX7_nextRule) := goodIn_app (goodIn_of _ (by decide +kernel)) ggX7_step_X7_nextRule
set_option maxRecDepth 20000 in
theorem ggX7_step_X7_puts : GoodIn wsX7_step wsX7_puts := goodIn_r _ [52, 47, 48, 87, 88, 89, 90, 91, 92, 93, 94, 95, 96, 97, 98, 99, 100, 101, 102, 103, 104, 105, 106, 107, 108, 109, 110, 111] rfl (by decide +kernel)
set_option maxRecDepth 20000 in
theorem gX7_step_X7_puts : GoodIn wsX7_step (wsV RX7 98 RX7 yX7_puts wsX7_puts) := goodIn_app (goodIn_of _ (by decide +kernel)) ggX7_step_X7_puts
set_option maxRecDepth 20000 in
theorem ggX7_step_X7_does : GoodIn wsX7_step wsX7_does := goodIn_r _ [86, 2, 74, 48, 47, 46, 68, 49, 50, 51, 6, 52, 87, 88, 89, 90, 91, 92, 93, 94, 95, 96, 97, 98, 99, 100, 101, 102, 103, 104, 105, 106, 107, 108, 109, 110, 111] rfl (by decide +kernel)
set_option maxRecDepth 20000 in
theorem gX7_step_X7_does : GoodIn wsX7_step (wsV RX7 105 RX7 yX7_does wsX7_does) := goodIn_app (goodIn_of _ (by decide +kernel)) ggX7_step_X7_does
set_option maxRecDepth 20000 in
theorem ggX7_run_X7_isSet : GoodIn wsX7_run wsX7_isSet := goodIn_r _ [8, 9, 10, 11, 7, 12, 88, 89, 90, 91, 92, 93, 94, 95, 96, 97, 98, 99, 100, 101, 102, 103, 104, 105, 106, 107, 108, 109, 110, 111, 112] rfl (by decide +kernel)
set_option maxRecDepth 20000 in
theorem gX7_run_X7_isSet : GoodIn wsX7_run (wsV RX7 109 RX7 yX7_isSet wsX7_isSet) := goodIn_app (goodIn_of _ (by decide +kernel)) ggX7_run_X7_isSet
set_option maxRecDepth 20000 in
theorem ggX7_run_X7_isIn : GoodIn wsX7_run wsX7_isIn := goodIn_r _ [12] rfl (by decide +kernel)
set_option maxRecDepth 20000 in
theorem gX7_run_X7_isIn : GoodIn wsX7_run (va_wsS RX7 73 yX7_isIn wsX7_isIn) := goodIn_app (goodIn_of _ (by decide +kernel)) ggX7_run_X7_isIn
set_option maxRecDepth 20000 in
theorem ggX7_run_X7_findCosts : GoodIn wsX7_run wsX7_findCosts := goodIn_r _ [16, 17, 18, 19, 20, 21, 22, 23, 24, 25, 26, 7, 27, 28, 29, 30, 31, 32, 33, 34, 35, 36, 37, 38, 39, 40, 41, 42, 43, 44, 45, 46, 47, 48, 49, 50, 51, 52, 53, 54, 55, 56, 57, 58, 59, 60, 2, 61, 62, 63, 88, 89, 90, 91, 92, 93, 94, 95, 96, 97, 98, 99, 100, 101, 102, 103, 104, 105, 106, 107, 108, 109, 110, 111, 112] rfl (by decide +kernel)
set_option maxRecDepth 20000 in
theorem gX7_run_X7_findCosts : GoodIn wsX7_run (wsV RX7 158 RX7 yX7_findCosts wsX7_findCosts) := goodIn_app (goodIn_of _ (by decide +kernel)) ggX7_run_X7_findCosts
set_option maxRecDepth 20000 in
theorem ggX7_run_X7_farNow : GoodIn wsX7_run wsX7_farNow := goodIn_r _ [67, 68, 3, 69, 70, 71, 72, 7, 73, 74, 17, 20, 75, 54, 55, 56, 57, 19, 18, 32, 33, 34, 58, 59, 60, 2, 61, 62, 63, 88, 89, 90, 91, 92, 93, 94, 95, 96, 97, 98, 99, 100, 101, 102, 103, 104, 105, 106, 107, 108, 109, 110, 111, 112] rfl (by decide +kernel)
set_option maxRecDepth 20000 in
theorem gX7_run_X7_farNow : GoodIn wsX7_run (wsV RX7 161 RX7 yX7_farNow wsX7_farNow) := goodIn_app (goodIn_of _ (by decide +kernel)) ggX7_run_X7_farNow
set_option maxRecDepth 20000 in
theorem ggX7_run_X7_nextRule : GoodIn wsX7_run wsX7_nextRule := goodIn_r _ [79, 40, 20, 68, 3, 80, 81, 82, 7, 83, 41, 69, 42, 75, 43, 44, 45, 46, 47, 48, 49, 50, 51, 52, 53, 54, 55, 56, 57, 19, 18, 32, 33, 34, 58, 59, 60, 2, 61, 62, 63, 88, 89, 90, 91, 92, 93, 94, 95, 96, 97, 98, 99, 100, 101, 102, 103, 104, 105, 106, 107, 108, 109, 110, 111, 112] rfl (by decide +kernel)
set_option maxRecDepth 20000 in
theorem gX7_run_X7_nextRule : GoodIn wsX7_run (wsV RX7 165 RX7 yX7_nextRule wsX7_nextRule) := goodIn_app (goodIn_of _ (by decide +kernel)) ggX7_run_X7_nextRule
set_option maxRecDepth 20000 in
theorem ggX7_run_X7_puts : GoodIn wsX7_run wsX7_puts := goodIn_r _ [53, 48, 49, 88, 89, 90, 91, 92, 93, 94, 95, 96, 97, 98, 99, 100, 101, 102, 103, 104, 105, 106, 107, 108, 109, 110, 111, 112] rfl (by decide +kernel)
set_option maxRecDepth 20000 in
theorem gX7_run_X7_puts : GoodIn wsX7_run (wsV RX7 98 RX7 yX7_puts wsX7_puts) := goodIn_app (goodIn_of _ (by decide +kernel)) ggX7_run_X7_puts
set_option maxRecDepth 20000 in
theorem ggX7_run_X7_does : GoodIn wsX7_run wsX7_does := goodIn_r _ [87, 3, 75, 49, 48, 47, 69, 50, 51, 52, 7, 53, 88, 89, 90, 91, 92, 93, 94, 95, 96, 97, 98, 99, 100, 101, 102, 103, 104, 105, 106, 107, 108, 109, 110, 111, 112] rfl (by decide +kernel)
set_option maxRecDepth 20000 in
theorem gX7_run_X7_does : GoodIn wsX7_run (wsV RX7 105 RX7 yX7_does wsX7_does) := goodIn_app (goodIn_of _ (by decide +kernel)) ggX7_run_X7_does
set_option maxRecDepth 20000 in
theorem ggX7_pop_X7_isControl : GoodIn wsX7_pop wsX7_isControl := goodIn_r _ [7, 8, 9, 10, 6, 11, 66, 67, 68, 69, 70, 71, 72, 73, 74, 75, 76, 77, 78, 79, 80, 81, 82, 83, 84, 85, 86, 87, 88, 89, 90] rfl (by decide +kernel)
set_option maxRecDepth 20000 in
theorem gX7_pop_X7_isControl : GoodIn wsX7_pop (wsV RX7 91 RX7 yX7_isControl wsX7_isControl) := goodIn_app (goodIn_of _ (by decide +kernel)) ggX7_pop_X7_isControl
set_option maxRecDepth 20000 in
theorem ggX7_pop_X7_isSign : GoodIn wsX7_pop wsX7_isSign := goodIn_r _ [15, 16, 9, 10, 6, 11, 66, 67, 68, 69, 70, 71, 72, 73, 74, 75, 76, 77, 78, 79, 80, 81, 82, 83, 84, 85, 86, 87, 88, 89, 90] rfl (by decide +kernel)
set_option maxRecDepth 20000 in
theorem gX7_pop_X7_isSign : GoodIn wsX7_pop (wsV RX7 95 RX7 yX7_isSign wsX7_isSign) := goodIn_app (goodIn_of _ (by decide +kernel)) ggX7_pop_X7_isSign
set_option maxRecDepth 20000 in
theorem ggX7_pop_X7_findCosts : GoodIn wsX7_pop wsX7_findCosts := goodIn_r _ [20, 21, 22, 2, 23, 24, 8, 16, 25, 26, 27, 6, 28, 29, 30, 31, 32, 33, 34, 35, 36, 37, 38, 39, 40, 41, 42, 43, 44, 45, 46, 47, 48, 49, 50, 51, 52, 53, 54, 55, 56, 57, 58, 59, 60, 61, 62, 63, 64, 65, 66, 67, 68, 69, 70, 71, 72, 73, 74, 75, 76, 77, 78, 79, 80, 81, 82, 83, 84, 85, 86, 87, 88, 89, 90] rfl (by decide +kernel)
set_option maxRecDepth 20000 in
theorem gX7_pop_X7_findCosts : GoodIn wsX7_pop (wsV RX7 158 RX7 yX7_findCosts wsX7_findCosts) := goodIn_app (goodIn_of _ (by decide +kernel)) ggX7_pop_X7_findCosts
set_option maxRecDepth 20000 in
theorem ggX7_pop_X7_costAt : GoodIn wsX7_pop wsX7_costAt := goodIn_r _ [35] rfl (by decide +kernel)
set_option maxRecDepth 20000 in
theorem gX7_pop_X7_costAt : GoodIn wsX7_pop (va_wsS RX7 127 yX7_costAt wsX7_costAt) := goodIn_app (goodIn_of _ (by decide +kernel)) ggX7_pop_X7_costAt
set_option maxRecDepth 20000 in
theorem ggX7_headsBy_X7_puts : GoodIn wsX7_headsBy wsX7_puts := goodIn_r _ [10, 2, 5, 14, 15, 16, 17, 18, 19, 20, 21, 22, 23, 24, 25, 26, 27, 28, 29, 30, 31, 32, 33, 34, 35, 36, 37, 38] rfl (by decide +kernel)
set_option maxRecDepth 20000 in
theorem gX7_headsBy_X7_puts : GoodIn wsX7_headsBy (wsV RX7 98 RX7 yX7_puts wsX7_puts) := goodIn_app (goodIn_of _ (by decide +kernel)) ggX7_headsBy_X7_puts
set_option maxRecDepth 20000 in
theorem ggX7_headsBy_X7_costAt : GoodIn wsX7_headsBy wsX7_costAt := goodIn_r _ [13] rfl (by decide +kernel)
set_option maxRecDepth 20000 in
theorem gX7_headsBy_X7_costAt : GoodIn wsX7_headsBy (va_wsS RX7 127 yX7_costAt wsX7_costAt) := goodIn_app (goodIn_of _ (by decide +kernel)) ggX7_headsBy_X7_costAt
set_option maxRecDepth 20000 in
theorem ggX7_findReach_X7_headsBy : GoodIn wsX7_findReach wsX7_headsBy := goodIn_r _ [9, 10, 11, 12, 13, 14, 15, 16, 17, 8, 18, 19, 20, 21, 22, 23, 24, 25, 26, 27, 28, 29, 30, 31, 32, 33, 34, 35, 36, 37, 38, 39, 40, 41, 42, 43, 44, 45, 46] rfl (by decide +kernel)
set_option maxRecDepth 20000 in
theorem gX7_findReach_X7_headsBy : GoodIn wsX7_findReach (wsV RX7 171 RX7 yX7_headsBy wsX7_headsBy) := goodIn_app (goodIn_of _ (by decide +kernel)) ggX7_findReach_X7_headsBy
set_option maxRecDepth 20000 in
theorem ggX7_popped_X7_costAt : GoodIn wsX7_popped wsX7_costAt := goodIn_r _ [6] rfl (by decide +kernel)
set_option maxRecDepth 20000 in
theorem gX7_popped_X7_costAt : GoodIn wsX7_popped (va_wsS RX7 127 yX7_costAt wsX7_costAt) := goodIn_app (goodIn_of _ (by decide +kernel)) ggX7_popped_X7_costAt
set_option maxRecDepth 20000 in
theorem ggX7_endless_X7_findCosts : GoodIn wsX7_endless wsX7_findCosts := goodIn_r _ [9, 10, 11, 12, 13, 14, 3, 15, 16, 17, 18, 8, 19, 20, 21, 22, 23, 24, 25, 26, 27, 28, 29, 30, 31, 32, 33, 34, 35, 36, 37, 38, 39, 40, 41, 42, 43, 44, 45, 46, 47, 48, 49, 50, 51, 52, 53, 54, 55, 56, 74, 75, 76, 77, 78, 79, 80, 81, 82, 83, 84, 85, 86, 87, 88, 89, 90, 91, 92, 93, 94, 95, 96, 97, 98] rfl (by decide +kernel)
set_option maxRecDepth 20000 in
theorem gX7_endless_X7_findCosts : GoodIn wsX7_endless (wsV RX7 158 RX7 yX7_findCosts wsX7_findCosts) := goodIn_app (goodIn_of _ (by decide +kernel)) ggX7_endless_X7_findCosts
set_option maxRecDepth 20000 in
theorem ggX7_endless_X7_findReach : GoodIn wsX7_endless wsX7_findReach := goodIn_r _ [60, 61, 32, 33, 34, 62, 63, 64, 8, 65, 39, 40, 3, 12, 41, 42, 43, 44, 45, 24, 25, 26, 74, 75, 76, 77, 78, 79, 80, 81, 82, 83, 84, 85, 86, 87, 88, 89, 90, 91, 92, 93, 94, 95, 96, 97, 98] rfl (by decide +kernel)
set_option maxRecDepth 20000 in
theorem gX7_endless_X7_findReach : GoodIn wsX7_endless (wsV RX7 174 RX7 yX7_findReach wsX7_findReach) := goodIn_app (goodIn_of _ (by decide +kernel)) ggX7_endless_X7_findReach
set_option maxRecDepth 20000 in
theorem ggX7_endless_X7_isForEver : GoodIn wsX7_endless wsX7_isForEver := goodIn_r _ [69, 61, 74, 75, 76, 77, 78, 79, 80, 81, 82, 83, 84, 85, 86, 87, 88, 89, 90, 91, 92, 93, 94, 95, 96, 97, 98] rfl (by decide +kernel)
set_option maxRecDepth 20000 in
theorem gX7_endless_X7_isForEver : GoodIn wsX7_endless (wsV RX7 177 RX7 yX7_isForEver wsX7_isForEver) := goodIn_app (goodIn_of _ (by decide +kernel)) ggX7_endless_X7_isForEver
set_option maxRecDepth 20000 in
theorem ggX7_endless_X7_popped : GoodIn wsX7_endless wsX7_popped := goodIn_r _ [73, 3, 12, 24, 25, 8, 26, 74, 75, 76, 77, 78, 79, 80, 81, 82, 83, 84, 85, 86, 87, 88, 89, 90, 91, 92, 93, 94, 95, 96, 97, 98] rfl (by decide +kernel)
set_option maxRecDepth 20000 in
theorem gX7_endless_X7_popped : GoodIn wsX7_endless (wsV RX7 180 RX7 yX7_popped wsX7_popped) := goodIn_app (goodIn_of _ (by decide +kernel)) ggX7_endless_X7_popped
set_option maxRecDepth 20000 in
theorem ggX7_findHigh_X7_headsBy : GoodIn wsX7_findHigh wsX7_headsBy := goodIn_r _ [11, 5, 6, 12, 13, 14, 15, 16, 17, 10, 18, 19, 20, 21, 22, 23, 24, 25, 26, 27, 28, 29, 30, 31, 32, 33, 34, 35, 36, 37, 38, 39, 40, 41, 42, 43, 44, 45, 46] rfl (by decide +kernel)
set_option maxRecDepth 20000 in
theorem gX7_findHigh_X7_headsBy : GoodIn wsX7_findHigh (wsV RX7 171 RX7 yX7_headsBy wsX7_headsBy) := goodIn_app (goodIn_of _ (by decide +kernel)) ggX7_findHigh_X7_headsBy
set_option maxRecDepth 20000 in
theorem ggX7_findHigh_X7_puts : GoodIn wsX7_findHigh wsX7_puts := goodIn_r _ [18, 6, 14, 22, 23, 24, 25, 26, 27, 28, 29, 30, 31, 32, 33, 34, 35, 36, 37, 38, 39, 40, 41, 42, 43, 44, 45, 46] rfl (by decide +kernel)
set_option maxRecDepth 20000 in
theorem gX7_findHigh_X7_puts : GoodIn wsX7_findHigh (wsV RX7 98 RX7 yX7_puts wsX7_puts) := goodIn_app (goodIn_of _ (by decide +kernel)) ggX7_findHigh_X7_puts
set_option maxRecDepth 20000 in
theorem ggX7_high_X7_findCosts : GoodIn wsX7_high wsX7_findCosts := goodIn_r _ [10, 11, 12, 13, 14, 15, 3, 16, 17, 18, 19, 9, 20, 21, 22, 23, 24, 25, 26, 27, 28, 29, 30, 31, 32, 33, 34, 35, 36, 37, 38, 39, 40, 41, 42, 43, 44, 45, 46, 47, 48, 49, 50, 51, 52, 53, 54, 55, 56, 57, 70, 71, 72, 73, 74, 75, 76, 77, 78, 79, 80, 81, 82, 83, 84, 85, 86, 87, 88, 89, 90, 91, 92, 93, 94] rfl (by decide +kernel)
set_option maxRecDepth 20000 in
theorem gX7_high_X7_findCosts : GoodIn wsX7_high (wsV RX7 158 RX7 yX7_findCosts wsX7_findCosts) := goodIn_app (goodIn_of _ (by decide +kernel)) ggX7_high_X7_findCosts
set_option maxRecDepth 20000 in
theorem ggX7_high_X7_findHigh : GoodIn wsX7_high wsX7_findHigh := goodIn_r _ [61, 4, 33, 34, 35, 40, 41, 62, 63, 64, 9, 65, 3, 13, 42, 43, 44, 45, 46, 25, 26, 27, 70, 71, 72, 73, 74, 75, 76, 77, 78, 79, 80, 81, 82, 83, 84, 85, 86, 87, 88, 89, 90, 91, 92, 93, 94] rfl (by decide +kernel)
set_option maxRecDepth 20000 in
theorem gX7_high_X7_findHigh : GoodIn wsX7_high (wsV RX7 184 RX7 yX7_findHigh wsX7_findHigh) := goodIn_app (goodIn_of _ (by decide +kernel)) ggX7_high_X7_findHigh
set_option maxRecDepth 20000 in
theorem ggX7_high_X7_popped : GoodIn wsX7_high wsX7_popped := goodIn_r _ [69, 3, 13, 25, 26, 9, 27, 70, 71, 72, 73, 74, 75, 76, 77, 78, 79, 80, 81, 82, 83, 84, 85, 86, 87, 88, 89, 90, 91, 92, 93, 94] rfl (by decide +kernel)
set_option maxRecDepth 20000 in
theorem gX7_high_X7_popped : GoodIn wsX7_high (wsV RX7 180 RX7 yX7_popped wsX7_popped) := goodIn_app (goodIn_of _ (by decide +kernel)) ggX7_high_X7_popped
set_option maxRecDepth 20000 in
theorem ggX7_count_X7_goes : GoodIn wsX7_count wsX7_goes := goodIn_r _ [10, 5, 11, 12, 13, 14, 15, 16, 17, 18, 19, 20, 21, 22, 23, 24, 25, 26, 27, 28, 29, 30, 31, 32, 33, 34, 35, 36, 37, 38, 39] rfl (by decide +kernel)
set_option maxRecDepth 20000 in
theorem gX7_count_X7_goes : GoodIn wsX7_count (wsV RX7 102 RX7 yX7_goes wsX7_goes) := goodIn_app (goodIn_of _ (by decide +kernel)) ggX7_count_X7_goes
end
section
def nwF : List (String × Nat × String × String × String × String) := [(RX3, 57, RX4, "controls", "I", "StackRuns"), (RX6, 175, RX4, "controls", "I", "StackRuns"), (RX6, 178, RX4, "alphabet", "I", "StackRuns"), (RX6, 55, RX4, "size", "I", "StackRuns"), (RX3, 32, RX4, "size", "I", "StackRuns"), (RX0, 64, RX4, "size", "I", "StackRuns"), (RX2, 71, RX4, "size", "I", "StackRuns"), (RX3, 19, RX4, "stamp", "I", "StackRuns"), (RX0, 31, RX4, "stamp", "I", "StackRuns"), (RX2, 62, RX4, "stamp", "I", "StackRuns"), (RX3, 39, RX4, "head", "[I", "StackRuns"), (RX0, 70, RX4, "head", "[I", "StackRuns"), (RX6, 97, RX4, "head", "[I", "StackRuns"), (RX2, 105, RX4, "head", "[I", "StackRuns"), (RX3, 46, RX4, "to", "[I", "StackRuns"), (RX0, 73, RX4, "to", "[I", "StackRuns"), (RX1, 50, RX4, "to", "[I", "StackRuns"), (RX5, 38, RX4, "to", "[I", "StackRuns"), (RX2, 92, RX4, "to", "[I", "StackRuns"), (RX3, 43, RX4, "top", "[I", "StackRuns"), (RX0, 67, RX4, "top", "[I", "StackRuns"), (RX1, 55, RX4, "top", "[I", "StackRuns"), (RX5, 35, RX4, "top", "[I", "StackRuns"), (RX2, 89, RX4, "top", "[I", "StackRuns"), (RX3, 64, RX4, "below", "[I", "StackRuns"), (RX5, 26, RX4, "below", "[I", "StackRuns"), (RX0, 88, RX4, "below", "[I", "StackRuns"), (RX1, 58, RX4, "below", "[I", "StackRuns"), (RX2, 102, RX4, "below", "[I", "StackRuns"), (RX2, 47, RX5, "control", "I", "StackRuns"), (RX6, 90, RX5, "control", "I", "StackRuns"), (RX0, 104, RX5, "control", "I", "StackRuns"), (RX1, 23, RX5, "height", "I", "StackRuns"), (RX6, 84, RX5, "height", "I", "StackRuns"), (RX2, 52, RX5, "height", "I", "StackRuns"), (RX0, 109, RX5, "height", "I", "StackRuns"), (RX1, 29, RX5, "signs", "[I", "StackRuns"), (RX2, 55, RX5, "signs", "[I", "StackRuns"), (RX6, 93, RX5, "signs", "[I", "StackRuns"), (RX0, 112, RX5, "signs", "[I", "StackRuns"), (RX0, 50, RX3, "least", "[J", "StackRuns"), (RX2, 78, RX3, "least", "[J", "StackRuns"), (RX6, 161, RX3, "least", "[J", "StackRuns"), (RX6, 200, RX1, "rows", "[J", "StackRuns"), (RX6, 119, RX2, "links", "I", "StackRuns")]
def nwM : List (String × Nat × MethodName × String) := [(RX6, 11, yX4_init, "StackRuns"), (RX6, 18, yX5_init, "StackRuns"), (RX6, 31, yX3_init, "StackRuns"), (RX6, 38, yX0_init, "StackRuns"), (RX6, 45, yX1_init, "StackRuns"), (RX6, 54, yX2_init, "StackRuns"), (RX5, 22, yX6_headOf, "StackRuns"), (RX2, 43, yX6_hasBit, "StackRuns"), (RX3, 53, yX6_headOf, "StackRuns"), (RX3, 60, yX6_sum, "StackRuns"), (RX2, 95, yX6_headOf, "StackRuns"), (RX2, 98, yX6_sum, "StackRuns"), (RX1, 41, yX6_sum, "StackRuns"), (RX0, 76, yX6_headOf, "StackRuns"), (RX0, 84, yX6_hasBit, "StackRuns")]
def NW (U : State) : Prop := (∀ q ∈ nwF, va_Nw (.fieldLinkNest q.1 q.2.1 q.2.2.1 q.2.2.2.1 q.2.2.2.2.1 q.2.2.2.2.2) U) ∧ (∀ q ∈ nwM, va_Nw (.methodLinkNest q.1 q.2.1 q.2.2.1 q.2.2.2) U)
theorem NW.warm {s U : State} (h : NW s) (hW : s.WarmedH U.vm) : NW U := ⟨fun q hq => va_Nw.warmF hW (h.1 q hq), fun q hq => va_Nw.warmM hW (h.2 q hq)⟩
theorem NW.same {u U : State} (e : u.vm = U.vm) (h : NW u) : NW U := ⟨fun q hq => va_Nw.same rfl e (h.1 q hq), fun q hq => va_Nw.same rfl e (h.2 q hq)⟩
theorem nf_RX3_57 {U : State} (h : NW U) (A : Array Value) : (Cond.fieldLinkNest RX3 57 RX4 "controls" "I" "StackRuns").before A U = true := va_Nw.use rfl (h.1 (RX3, 57, RX4, "controls", "I", "StackRuns") (List.mem_of_getElem? (i := 0) rfl))
theorem nf_RX6_175 {U : State} (h : NW U) (A : Array Value) : (Cond.fieldLinkNest RX6 175 RX4 "controls" "I" "StackRuns").before A U = true := va_Nw.use rfl (h.1 (RX6, 175, RX4, "controls", "I", "StackRuns") (List.mem_of_getElem? (i := 1) rfl))
theorem nf_RX6_178 {U : State} (h : NW U) (A : Array Value) : (Cond.fieldLinkNest RX6 178 RX4 "alphabet" "I" "StackRuns").before A U = true := va_Nw.use rfl (h.1 (RX6, 178, RX4, "alphabet", "I", "StackRuns") (List.mem_of_getElem? (i := 2) rfl))
theorem nf_RX6_55 {U : State} (h : NW U) (A : Array Value) : (Cond.fieldLinkNest RX6 55 RX4 "size" "I" "StackRuns").before A U = true := va_Nw.use rfl (h.1 (RX6, 55, RX4, "size", "I", "StackRuns") (List.mem_of_getElem? (i := 3) rfl))
theorem nf_RX3_32 {U : State} (h : NW U) (A : Array Value) : (Cond.fieldLinkNest RX3 32 RX4 "size" "I" "StackRuns").before A U = true := va_Nw.use rfl (h.1 (RX3, 32, RX4, "size", "I", "StackRuns") (List.mem_of_getElem? (i := 4) rfl))
theorem nf_RX0_64 {U : State} (h : NW U) (A : Array Value) : (Cond.fieldLinkNest RX0 64 RX4 "size" "I" "StackRuns").before A U = true := va_Nw.use rfl (h.1 (RX0, 64, RX4, "size", "I", "StackRuns") (List.mem_of_getElem? (i := 5) rfl))
theorem nf_RX2_71 {U : State} (h : NW U) (A : Array Value) : (Cond.fieldLinkNest RX2 71 RX4 "size" "I" "StackRuns").before A U = true := va_Nw.use rfl (h.1 (RX2, 71, RX4, "size", "I", "StackRuns") (List.mem_of_getElem? (i := 6) rfl))
theorem nf_RX3_19 {U : State} (h : NW U) (A : Array Value) : (Cond.fieldLinkNest RX3 19 RX4 "stamp" "I" "StackRuns").before A U = true := va_Nw.use rfl (h.1 (RX3, 19, RX4, "stamp", "I", "StackRuns") (List.mem_of_getElem? (i := 7) rfl))
theorem nf_RX0_31 {U : State} (h : NW U) (A : Array Value) : (Cond.fieldLinkNest RX0 31 RX4 "stamp" "I" "StackRuns").before A U = true := va_Nw.use rfl (h.1 (RX0, 31, RX4, "stamp", "I", "StackRuns") (List.mem_of_getElem? (i := 8) rfl))
theorem nf_RX2_62 {U : State} (h : NW U) (A : Array Value) : (Cond.fieldLinkNest RX2 62 RX4 "stamp" "I" "StackRuns").before A U = true := va_Nw.use rfl (h.1 (RX2, 62, RX4, "stamp", "I", "StackRuns") (List.mem_of_getElem? (i := 9) rfl))
theorem nf_RX3_39 {U : State} (h : NW U) (A : Array Value) : (Cond.fieldLinkNest RX3 39 RX4 "head" "[I" "StackRuns").before A U = true := va_Nw.use rfl (h.1 (RX3, 39, RX4, "head", "[I", "StackRuns") (List.mem_of_getElem? (i := 10) rfl))
theorem nf_RX0_70 {U : State} (h : NW U) (A : Array Value) : (Cond.fieldLinkNest RX0 70 RX4 "head" "[I" "StackRuns").before A U = true := va_Nw.use rfl (h.1 (RX0, 70, RX4, "head", "[I", "StackRuns") (List.mem_of_getElem? (i := 11) rfl))
theorem nf_RX6_97 {U : State} (h : NW U) (A : Array Value) : (Cond.fieldLinkNest RX6 97 RX4 "head" "[I" "StackRuns").before A U = true := va_Nw.use rfl (h.1 (RX6, 97, RX4, "head", "[I", "StackRuns") (List.mem_of_getElem? (i := 12) rfl))
theorem nf_RX2_105 {U : State} (h : NW U) (A : Array Value) : (Cond.fieldLinkNest RX2 105 RX4 "head" "[I" "StackRuns").before A U = true := va_Nw.use rfl (h.1 (RX2, 105, RX4, "head", "[I", "StackRuns") (List.mem_of_getElem? (i := 13) rfl))
theorem nf_RX3_46 {U : State} (h : NW U) (A : Array Value) : (Cond.fieldLinkNest RX3 46 RX4 "to" "[I" "StackRuns").before A U = true := va_Nw.use rfl (h.1 (RX3, 46, RX4, "to", "[I", "StackRuns") (List.mem_of_getElem? (i := 14) rfl))
theorem nf_RX0_73 {U : State} (h : NW U) (A : Array Value) : (Cond.fieldLinkNest RX0 73 RX4 "to" "[I" "StackRuns").before A U = true := va_Nw.use rfl (h.1 (RX0, 73, RX4, "to", "[I", "StackRuns") (List.mem_of_getElem? (i := 15) rfl))
theorem nf_RX1_50 {U : State} (h : NW U) (A : Array Value) : (Cond.fieldLinkNest RX1 50 RX4 "to" "[I" "StackRuns").before A U = true := va_Nw.use rfl (h.1 (RX1, 50, RX4, "to", "[I", "StackRuns") (List.mem_of_getElem? (i := 16) rfl))
theorem nf_RX5_38 {U : State} (h : NW U) (A : Array Value) : (Cond.fieldLinkNest RX5 38 RX4 "to" "[I" "StackRuns").before A U = true := va_Nw.use rfl (h.1 (RX5, 38, RX4, "to", "[I", "StackRuns") (List.mem_of_getElem? (i := 17) rfl))
theorem nf_RX2_92 {U : State} (h : NW U) (A : Array Value) : (Cond.fieldLinkNest RX2 92 RX4 "to" "[I" "StackRuns").before A U = true := va_Nw.use rfl (h.1 (RX2, 92, RX4, "to", "[I", "StackRuns") (List.mem_of_getElem? (i := 18) rfl))
theorem nf_RX3_43 {U : State} (h : NW U) (A : Array Value) : (Cond.fieldLinkNest RX3 43 RX4 "top" "[I" "StackRuns").before A U = true := va_Nw.use rfl (h.1 (RX3, 43, RX4, "top", "[I", "StackRuns") (List.mem_of_getElem? (i := 19) rfl))
theorem nf_RX0_67 {U : State} (h : NW U) (A : Array Value) : (Cond.fieldLinkNest RX0 67 RX4 "top" "[I" "StackRuns").before A U = true := va_Nw.use rfl (h.1 (RX0, 67, RX4, "top", "[I", "StackRuns") (List.mem_of_getElem? (i := 20) rfl))
theorem nf_RX1_55 {U : State} (h : NW U) (A : Array Value) : (Cond.fieldLinkNest RX1 55 RX4 "top" "[I" "StackRuns").before A U = true := va_Nw.use rfl (h.1 (RX1, 55, RX4, "top", "[I", "StackRuns") (List.mem_of_getElem? (i := 21) rfl))
theorem nf_RX5_35 {U : State} (h : NW U) (A : Array Value) : (Cond.fieldLinkNest RX5 35 RX4 "top" "[I" "StackRuns").before A U = true := va_Nw.use rfl (h.1 (RX5, 35, RX4, "top", "[I", "StackRuns") (List.mem_of_getElem? (i := 22) rfl))
theorem nf_RX2_89 {U : State} (h : NW U) (A : Array Value) : (Cond.fieldLinkNest RX2 89 RX4 "top" "[I" "StackRuns").before A U = true := va_Nw.use rfl (h.1 (RX2, 89, RX4, "top", "[I", "StackRuns") (List.mem_of_getElem? (i := 23) rfl))
theorem nf_RX3_64 {U : State} (h : NW U) (A : Array Value) : (Cond.fieldLinkNest RX3 64 RX4 "below" "[I" "StackRuns").before A U = true := va_Nw.use rfl (h.1 (RX3, 64, RX4, "below", "[I", "StackRuns") (List.mem_of_getElem? (i := 24) rfl))
theorem nf_RX5_26 {U : State} (h : NW U) (A : Array Value) : (Cond.fieldLinkNest RX5 26 RX4 "below" "[I" "StackRuns").before A U = true := va_Nw.use rfl (h.1 (RX5, 26, RX4, "below", "[I", "StackRuns") (List.mem_of_getElem? (i := 25) rfl))
theorem nf_RX0_88 {U : State} (h : NW U) (A : Array Value) : (Cond.fieldLinkNest RX0 88 RX4 "below" "[I" "StackRuns").before A U = true := va_Nw.use rfl (h.1 (RX0, 88, RX4, "below", "[I", "StackRuns") (List.mem_of_getElem? (i := 26) rfl))
theorem nf_RX1_58 {U : State} (h : NW U) (A : Array Value) : (Cond.fieldLinkNest RX1 58 RX4 "below" "[I" "StackRuns").before A U = true := va_Nw.use rfl (h.1 (RX1, 58, RX4, "below", "[I", "StackRuns") (List.mem_of_getElem? (i := 27) rfl))
theorem nf_RX2_102 {U : State} (h : NW U) (A : Array Value) : (Cond.fieldLinkNest RX2 102 RX4 "below" "[I" "StackRuns").before A U = true := va_Nw.use rfl (h.1 (RX2, 102, RX4, "below", "[I", "StackRuns") (List.mem_of_getElem? (i := 28) rfl))
theorem nf_RX2_47 {U : State} (h : NW U) (A : Array Value) : (Cond.fieldLinkNest RX2 47 RX5 "control" "I" "StackRuns").before A U = true := va_Nw.use rfl (h.1 (RX2, 47, RX5, "control", "I", "StackRuns") (List.mem_of_getElem? (i := 29) rfl))
theorem nf_RX6_90 {U : State} (h : NW U) (A : Array Value) : (Cond.fieldLinkNest RX6 90 RX5 "control" "I" "StackRuns").before A U = true := va_Nw.use rfl (h.1 (RX6, 90, RX5, "control", "I", "StackRuns") (List.mem_of_getElem? (i := 30) rfl))
theorem nf_RX0_104 {U : State} (h : NW U) (A : Array Value) : (Cond.fieldLinkNest RX0 104 RX5 "control" "I" "StackRuns").before A U = true := va_Nw.use rfl (h.1 (RX0, 104, RX5, "control", "I", "StackRuns") (List.mem_of_getElem? (i := 31) rfl))
theorem nf_RX1_23 {U : State} (h : NW U) (A : Array Value) : (Cond.fieldLinkNest RX1 23 RX5 "height" "I" "StackRuns").before A U = true := va_Nw.use rfl (h.1 (RX1, 23, RX5, "height", "I", "StackRuns") (List.mem_of_getElem? (i := 32) rfl))
theorem nf_RX6_84 {U : State} (h : NW U) (A : Array Value) : (Cond.fieldLinkNest RX6 84 RX5 "height" "I" "StackRuns").before A U = true := va_Nw.use rfl (h.1 (RX6, 84, RX5, "height", "I", "StackRuns") (List.mem_of_getElem? (i := 33) rfl))
theorem nf_RX2_52 {U : State} (h : NW U) (A : Array Value) : (Cond.fieldLinkNest RX2 52 RX5 "height" "I" "StackRuns").before A U = true := va_Nw.use rfl (h.1 (RX2, 52, RX5, "height", "I", "StackRuns") (List.mem_of_getElem? (i := 34) rfl))
theorem nf_RX0_109 {U : State} (h : NW U) (A : Array Value) : (Cond.fieldLinkNest RX0 109 RX5 "height" "I" "StackRuns").before A U = true := va_Nw.use rfl (h.1 (RX0, 109, RX5, "height", "I", "StackRuns") (List.mem_of_getElem? (i := 35) rfl))
theorem nf_RX1_29 {U : State} (h : NW U) (A : Array Value) : (Cond.fieldLinkNest RX1 29 RX5 "signs" "[I" "StackRuns").before A U = true := va_Nw.use rfl (h.1 (RX1, 29, RX5, "signs", "[I", "StackRuns") (List.mem_of_getElem? (i := 36) rfl))
theorem nf_RX2_55 {U : State} (h : NW U) (A : Array Value) : (Cond.fieldLinkNest RX2 55 RX5 "signs" "[I" "StackRuns").before A U = true := va_Nw.use rfl (h.1 (RX2, 55, RX5, "signs", "[I", "StackRuns") (List.mem_of_getElem? (i := 37) rfl))
theorem nf_RX6_93 {U : State} (h : NW U) (A : Array Value) : (Cond.fieldLinkNest RX6 93 RX5 "signs" "[I" "StackRuns").before A U = true := va_Nw.use rfl (h.1 (RX6, 93, RX5, "signs", "[I", "StackRuns") (List.mem_of_getElem? (i := 38) rfl))
theorem nf_RX0_112 {U : State} (h : NW U) (A : Array Value) : (Cond.fieldLinkNest RX0 112 RX5 "signs" "[I" "StackRuns").before A U = true := va_Nw.use rfl (h.1 (RX0, 112, RX5, "signs", "[I", "StackRuns") (List.mem_of_getElem? (i := 39) rfl))
theorem nf_RX0_50 {U : State} (h : NW U) (A : Array Value) : (Cond.fieldLinkNest RX0 50 RX3 "least" "[J" "StackRuns").before A U = true := va_Nw.use rfl (h.1 (RX0, 50, RX3, "least", "[J", "StackRuns") (List.mem_of_getElem? (i := 40) rfl))
theorem nf_RX2_78 {U : State} (h : NW U) (A : Array Value) : (Cond.fieldLinkNest RX2 78 RX3 "least" "[J" "StackRuns").before A U = true := va_Nw.use rfl (h.1 (RX2, 78, RX3, "least", "[J", "StackRuns") (List.mem_of_getElem? (i := 41) rfl))
theorem nf_RX6_161 {U : State} (h : NW U) (A : Array Value) : (Cond.fieldLinkNest RX6 161 RX3 "least" "[J" "StackRuns").before A U = true := va_Nw.use rfl (h.1 (RX6, 161, RX3, "least", "[J", "StackRuns") (List.mem_of_getElem? (i := 42) rfl))
theorem nf_RX6_200 {U : State} (h : NW U) (A : Array Value) : (Cond.fieldLinkNest RX6 200 RX1 "rows" "[J" "StackRuns").before A U = true := va_Nw.use rfl (h.1 (RX6, 200, RX1, "rows", "[J", "StackRuns") (List.mem_of_getElem? (i := 43) rfl))
theorem nf_RX6_119 {U : State} (h : NW U) (A : Array Value) : (Cond.fieldLinkNest RX6 119 RX2 "links" "I" "StackRuns").before A U = true := va_Nw.use rfl (h.1 (RX6, 119, RX2, "links", "I", "StackRuns") (List.mem_of_getElem? (i := 44) rfl))
theorem nm_RX6_11 {U : State} (h : NW U) : va_Nw (.methodLinkNest RX6 11 yX4_init "StackRuns") U := h.2 (RX6, 11, yX4_init, "StackRuns") (List.mem_of_getElem? (i := 0) rfl)
theorem nm_RX6_18 {U : State} (h : NW U) : va_Nw (.methodLinkNest RX6 18 yX5_init "StackRuns") U := h.2 (RX6, 18, yX5_init, "StackRuns") (List.mem_of_getElem? (i := 1) rfl)
theorem nm_RX6_31 {U : State} (h : NW U) : va_Nw (.methodLinkNest RX6 31 yX3_init "StackRuns") U := h.2 (RX6, 31, yX3_init, "StackRuns") (List.mem_of_getElem? (i := 2) rfl)
theorem nm_RX6_38 {U : State} (h : NW U) : va_Nw (.methodLinkNest RX6 38 yX0_init "StackRuns") U := h.2 (RX6, 38, yX0_init, "StackRuns") (List.mem_of_getElem? (i := 3) rfl)
theorem nm_RX6_45 {U : State} (h : NW U) : va_Nw (.methodLinkNest RX6 45 yX1_init "StackRuns") U := h.2 (RX6, 45, yX1_init, "StackRuns") (List.mem_of_getElem? (i := 4) rfl)
theorem nm_RX6_54 {U : State} (h : NW U) : va_Nw (.methodLinkNest RX6 54 yX2_init "StackRuns") U := h.2 (RX6, 54, yX2_init, "StackRuns") (List.mem_of_getElem? (i := 5) rfl)
theorem nm_RX5_22 {U : State} (h : NW U) : va_Nw (.methodLinkNest RX5 22 yX6_headOf "StackRuns") U := h.2 (RX5, 22, yX6_headOf, "StackRuns") (List.mem_of_getElem? (i := 6) rfl)
theorem nm_RX2_43 {U : State} (h : NW U) : va_Nw (.methodLinkNest RX2 43 yX6_hasBit "StackRuns") U := h.2 (RX2, 43, yX6_hasBit, "StackRuns") (List.mem_of_getElem? (i := 7) rfl)
theorem nm_RX3_53 {U : State} (h : NW U) : va_Nw (.methodLinkNest RX3 53 yX6_headOf "StackRuns") U := h.2 (RX3, 53, yX6_headOf, "StackRuns") (List.mem_of_getElem? (i := 8) rfl)
theorem nm_RX3_60 {U : State} (h : NW U) : va_Nw (.methodLinkNest RX3 60 yX6_sum "StackRuns") U := h.2 (RX3, 60, yX6_sum, "StackRuns") (List.mem_of_getElem? (i := 9) rfl)
theorem nm_RX2_95 {U : State} (h : NW U) : va_Nw (.methodLinkNest RX2 95 yX6_headOf "StackRuns") U := h.2 (RX2, 95, yX6_headOf, "StackRuns") (List.mem_of_getElem? (i := 10) rfl)
theorem nm_RX2_98 {U : State} (h : NW U) : va_Nw (.methodLinkNest RX2 98 yX6_sum "StackRuns") U := h.2 (RX2, 98, yX6_sum, "StackRuns") (List.mem_of_getElem? (i := 11) rfl)
theorem nm_RX1_41 {U : State} (h : NW U) : va_Nw (.methodLinkNest RX1 41 yX6_sum "StackRuns") U := h.2 (RX1, 41, yX6_sum, "StackRuns") (List.mem_of_getElem? (i := 12) rfl)
theorem nm_RX0_76 {U : State} (h : NW U) : va_Nw (.methodLinkNest RX0 76 yX6_headOf "StackRuns") U := h.2 (RX0, 76, yX6_headOf, "StackRuns") (List.mem_of_getElem? (i := 13) rfl)
theorem nm_RX0_84 {U : State} (h : NW U) : va_Nw (.methodLinkNest RX0 84 yX6_hasBit "StackRuns") U := h.2 (RX0, 84, yX6_hasBit, "StackRuns") (List.mem_of_getElem? (i := 14) rfl)

abbrev Ev : Type := Program × Launch × Env × Room × State × MethodId × Array Value × List Frame × Method × Code × (State → Prop) × va_G × (Nat → ClassId) × (Nat → Prop) × Heap × Nat
abbrev eP (E : Ev) : Program := E.1
abbrev eL (E : Ev) : Launch := E.2.1
abbrev eE (E : Ev) : Env := E.2.2.1
abbrev eR (E : Ev) : Room := E.2.2.2.1
abbrev eS (E : Ev) : State := E.2.2.2.2.1
abbrev eM (E : Ev) : MethodId := E.2.2.2.2.2.1
abbrev eG (E : Ev) : Array Value := E.2.2.2.2.2.2.1
abbrev eB (E : Ev) : List Frame := E.2.2.2.2.2.2.2.1
abbrev eT (E : Ev) : Method := E.2.2.2.2.2.2.2.2.1
abbrev eC (E : Ev) : Code := E.2.2.2.2.2.2.2.2.2.1
abbrev eQ (E : Ev) : State → Prop := E.2.2.2.2.2.2.2.2.2.2.1
abbrev eD (E : Ev) : va_G := E.2.2.2.2.2.2.2.2.2.2.2.1
abbrev eY (E : Ev) : Nat → ClassId := E.2.2.2.2.2.2.2.2.2.2.2.2.1
abbrev eA (E : Ev) : Nat → Prop := E.2.2.2.2.2.2.2.2.2.2.2.2.2.1
abbrev eH (E : Ev) : Heap := E.2.2.2.2.2.2.2.2.2.2.2.2.2.2.1
abbrev eN (E : Ev) : Nat := E.2.2.2.2.2.2.2.2.2.2.2.2.2.2.2
abbrev tysOf (cy : Nat → ClassId) : List (ClassId × FieldType) := [(cy 0, .int), (cy 1, .long), (cy 2, .boolean), (cy 3, .object RX2)]
def Go (E : Ev) (k n pc : Nat) (lv : List (Nat × Value)) (st : List Value) (ws : va_W) : Prop :=
  ∀ (H : Heap) (locs : List Loc) (ls : Array Slot), lv_has ls (eN E) lv → va_P (eD E) vwCl ws H → va_D (eA E) ws → va_S (eA E) (eH E) H locs → W (eP E) (eL E) (eE E) (eR E) (eS E) (eM E) (eG E) (eB E) (eT E) (eC E) H locs k n (eQ E) (F0 (eM E) pc ls st)
def Cx (E : Ev) (cc : ByteArray) (Ts : List Cond) (own : String) (rm : Room) (nL : Nat) : Prop := CallFix (eP E) (eM E) (eC E) cc (eN E) (eS E) (eG E) Ts own ∧ va_K (eD E) vwCl (tysOf (eY E)) (eS E) ∧ NW (eS E) ∧ (∀ q, (eH E).size ≤ q → eA E q) ∧ eR E = rm ∧ eN E = nL
/- numbers -/
def oI (a : Nat) : Int32 := nI a - 1
def bI (b : Bool) : Int32 := if b then nI 1 else nI 0
def rv (a : Nat) : Int64 := if a = 9000000000000000000 then -1 else lN a
abbrev aN (cy : Nat → ClassId) (a n : Nat) (X : Nat → Nat) : Nat × va_E := (a, .inl (cy 0, n, .inl (fun r => nI (X r))))
abbrev aO (cy : Nat → ClassId) (a n : Nat) (X : Nat → Nat) : Nat × va_E := (a, .inl (cy 0, n, .inl (fun r => oI (X r))))
abbrev aZ (cy : Nat → ClassId) (a n : Nat) (X : Nat → Bool) : Nat × va_E := (a, .inl (cy 2, n, .inl (fun r => bI (X r))))
abbrev aL (cy : Nat → ClassId) (a n : Nat) (X : Nat → Nat) : Nat × va_E := (a, .inl (cy 1, n, .inr (.inl (fun r => lN (X r)))))
abbrev aR (cy : Nat → ClassId) (a n : Nat) (X : Nat → Nat) : Nat × va_E := (a, .inl (cy 1, n, .inr (.inl (fun r => rv (X r)))))
abbrev aQ (cy : Nat → ClassId) (a n : Nat) (X : Nat → Nat) : Nat × va_E := (a, .inl (cy 3, n, .inr (.inr (.inr (.inr (fun r => some (X r)))))))
abbrev ob (a ci : Nat) (fs : List Value) : Nat × va_E := (a, .inr (ci, fs))
def up {α : Type} (f : Nat → α) (k : Nat) (x : α) : Nat → α := fun j => if j = k then x else f j
theorem up_same {α : Type} (f : Nat → α) (k : Nat) (x : α) : up f k x k = x := by simp [up]
theorem up_ne {α : Type} (f : Nat → α) {k j : Nat} (x : α) (h : j ≠ k) : up f k x j = f j := by simp [up, h]
theorem upd_N (X : Nat → Nat) (k v : Nat) : upd (fun r => nI (X r)) k (nI v) = fun r => nI (up X k v r) := by
  funext j; simp only [upd, up]; split <;> rfl
theorem upd_O (X : Nat → Nat) (k v : Nat) : upd (fun r => oI (X r)) k (oI v) = fun r => oI (up X k v r) := by
  funext j; simp only [upd, up]; split <;> rfl
theorem upd_Z (X : Nat → Bool) (k : Nat) (v : Bool) : upd (fun r => bI (X r)) k (bI v) = fun r => bI (up X k v r) := by
  funext j; simp only [upd, up]; split <;> rfl
theorem upd_L (X : Nat → Nat) (k v : Nat) : vp_updL (fun r => lN (X r)) k (lN v) = fun r => lN (up X k v r) := by
  funext j; simp only [vp_updL, up]; split <;> rfl
theorem upd_R (X : Nat → Nat) (k v : Nat) : vp_updL (fun r => rv (X r)) k (rv v) = fun r => rv (up X k v r) := by
  funext j; simp only [vp_updL, up]; split <;> rfl
theorem bI_1 : bI true = nI 1 := rfl
theorem bI_0 : bI false = nI 0 := rfl
theorem bI_t {b : Bool} (h : b = true) : bI b = nI 1 := by rw [h]; rfl
theorem bI_f {b : Bool} (h : b = false) : bI b = nI 0 := by rw [h]; rfl
theorem oI_0 : oI 0 = -1 := by decide
theorem oI_s (a : Nat) : oI (a + 1) = nI a := nI_pred a
theorem oI_eq {a : Nat} (h : a < 1000) : oI a = -1 ↔ a = 0 := by
  cases a with
  | zero => simp [oI_0]
  | succ a =>
    rw [oI_s]
    constructor
    · intro e
      have := nI_toInt (n := a) (by omega)
      rw [e] at this
      have h2 : (-1 : Int32).toInt = -1 := by decide
      omega
    · intro e; omega
theorem bI_eq0 (b : Bool) : bI b = 0 ↔ b = false := by cases b <;> decide
theorem bI_ne0 (b : Bool) : ¬ bI b = 0 ↔ b = true := by cases b <;> decide
theorem nI_eq0 {a : Nat} (h : a < 2 ^ 31) : nI a = 0 ↔ a = 0 := by
  have := nI_eq (a := a) (b := 0) h (by decide)
  rw [nI_0] at this; exact this
theorem nI_le0 {a : Nat} (h : a < 2 ^ 31) : nI a ≤ 0 ↔ a = 0 := by
  have := nI_leI (a := a) (b := 0) h (by decide)
  rw [nI_0] at this; rw [this]; omega
theorem nI_gt0 {a : Nat} (h : a < 2 ^ 31) : 0 < nI a ↔ 0 < a := by
  have := nI_ltI (a := 0) (b := a) (by decide) h
  rw [nI_0] at this; exact this
section GO
variable {E : Ev} {cc : ByteArray} {Ts : List Cond} {own : String} {rm : Room} {nL k n pc : Nat} {lv : List (Nat × Value)} {st : List Value} {ws : va_W}
theorem go_lv {lv' : List (Nat × Value)} (ks : List Nat) (h : lv_pick lv ks = lv') (kk : Go E k n pc lv' st ws) : Go E k n pc lv st ws := fun H locs ls hl hP hD hS => kk H locs ls (lv_sub hl ks h) hP hD hS
theorem go_eq {lv' : List (Nat × Value)} {st' : List Value} {ws' : va_W} (h1 : lv = lv') (h2 : st = st') (h3 : ws = ws') (kk : Go E k n pc lv' st' ws') : Go E k n pc lv st ws := by
  subst h1; subst h2; subst h3; exact kk
theorem go_st {v v' : Value} (h : v = v') (kk : Go E k n pc lv (v' :: st) ws) : Go E k n pc lv (v :: st) ws := h ▸ kk
theorem go_for (N : Nat) (G : Nat → Prop) (hs : ∀ i, i ≤ N → (i < N → G (i + 1)) → G i) : ∀ i, i ≤ N → G i := by
  intro i hi
  obtain ⟨d, hd⟩ : ∃ d, i + d = N := ⟨N - i, by omega⟩
  induction d generalizing i with
  | zero => exact hs i hi (fun h => absurd h (by omega))
  | succ d ih => exact hs i hi (fun h => ih (i + 1) (by omega) (by omega))
theorem go_down (G : Nat → Prop) (hs : ∀ i, (∀ j, i = j + 1 → G j) → G i) : ∀ i, G i := by
  intro i
  induction i with
  | zero => exact hs 0 (fun j h => absurd h (by omega))
  | succ i ih => exact hs (i + 1) (fun j h => by have : i = j := by omega
                                                 subst this; exact ih)

theorem g_aload_n (C : Cx E cc Ts own rm nL) {f : Fin 4} {i : Nat} {x : Nat} (d : decode cc pc = .ok (.aload_n f, 1)) (hi : (f : Nat) = i) (q : Nat) (hq : pc + 1 = q) (j : Nat) (hj : lv[j]? = some (i, .ref x)) (kk : Go E k n q lv (.ref x :: st) ws) : Go E k n pc lv st ws := by
  subst hq; exact fun H locs ls hl hP hD hS => lv_aload_n C.1.1 C.1.2.1 d hi (lv_at hl j hj) (kk H locs ls hl hP hD hS)
theorem g_aload (C : Cx E cc Ts own rm nL) {i : Nat} {x : Nat} (d : decode cc pc = .ok (.aload i, 2)) (q : Nat) (hq : pc + 2 = q) (j : Nat) (hj : lv[j]? = some (i, .ref x)) (kk : Go E k n q lv (.ref x :: st) ws) : Go E k n pc lv st ws := by
  subst hq; exact fun H locs ls hl hP hD hS => lv_aload C.1.1 C.1.2.1 d (lv_at hl j hj) (kk H locs ls hl hP hD hS)
theorem g_iload_n (C : Cx E cc Ts own rm nL) {f : Fin 4} {i : Nat} {x : Int32} (d : decode cc pc = .ok (.iload_n f, 1)) (hi : (f : Nat) = i) (q : Nat) (hq : pc + 1 = q) (j : Nat) (hj : lv[j]? = some (i, .int x)) (kk : Go E k n q lv (.int x :: st) ws) : Go E k n pc lv st ws := by
  subst hq; exact fun H locs ls hl hP hD hS => lv_iload_n C.1.1 C.1.2.1 d hi (lv_at hl j hj) (kk H locs ls hl hP hD hS)
theorem g_iload (C : Cx E cc Ts own rm nL) {i : Nat} {x : Int32} (d : decode cc pc = .ok (.iload i, 2)) (q : Nat) (hq : pc + 2 = q) (j : Nat) (hj : lv[j]? = some (i, .int x)) (kk : Go E k n q lv (.int x :: st) ws) : Go E k n pc lv st ws := by
  subst hq; exact fun H locs ls hl hP hD hS => lv_iload C.1.1 C.1.2.1 d (lv_at hl j hj) (kk H locs ls hl hP hD hS)
theorem g_lload_n (C : Cx E cc Ts own rm nL) {f : Fin 4} {i : Nat} {x : Int64} (d : decode cc pc = .ok (.lload_n f, 1)) (hi : (f : Nat) = i) (q : Nat) (hq : pc + 1 = q) (j : Nat) (hj : lv[j]? = some (i, .long x)) (kk : Go E k n q lv (.long x :: st) ws) : Go E k n pc lv st ws := by
  subst hq; exact fun H locs ls hl hP hD hS => lv_lload_n C.1.1 C.1.2.1 d hi (lv_at hl j hj) (kk H locs ls hl hP hD hS)
theorem g_lload (C : Cx E cc Ts own rm nL) {i : Nat} {x : Int64} (d : decode cc pc = .ok (.lload i, 2)) (q : Nat) (hq : pc + 2 = q) (j : Nat) (hj : lv[j]? = some (i, .long x)) (kk : Go E k n q lv (.long x :: st) ws) : Go E k n pc lv st ws := by
  subst hq; exact fun H locs ls hl hP hD hS => lv_lload C.1.1 C.1.2.1 d (lv_at hl j hj) (kk H locs ls hl hP hD hS)
theorem g_astore_n (C : Cx E cc Ts own rm nL) {f : Fin 4} {i : Nat} {x : Nat} {lv' : List (Nat × Value)} (d : decode cc pc = .ok (.astore_n f, 1)) (hi : (f : Nat) = i) (q : Nat) (hq : pc + 1 = q) (hn : i < nL) (hl' : (i, Value.ref x) :: lv.filter (fun q => !(q.1 == i) && !(q.1 + 1 == i && q.2.category == 2)) = lv') (kk : Go E k n q lv' st ws) : Go E k n pc lv (.ref x :: st) ws := by
  subst hq; exact fun H locs ls hl hP hD hS => lv_astore_n C.1.1 C.1.2.1 d hi hl (by rw [C.2.2.2.2.2]; exact hn) hl' (fun ls2 hl2 => kk H locs ls2 hl2 hP hD hS)
theorem g_astore (C : Cx E cc Ts own rm nL) {i : Nat} {x : Nat} {lv' : List (Nat × Value)} (d : decode cc pc = .ok (.astore i, 2)) (q : Nat) (hq : pc + 2 = q) (hn : i < nL) (hl' : (i, Value.ref x) :: lv.filter (fun q => !(q.1 == i) && !(q.1 + 1 == i && q.2.category == 2)) = lv') (kk : Go E k n q lv' st ws) : Go E k n pc lv (.ref x :: st) ws := by
  subst hq; exact fun H locs ls hl hP hD hS => lv_astore C.1.1 C.1.2.1 d hl (by rw [C.2.2.2.2.2]; exact hn) hl' (fun ls2 hl2 => kk H locs ls2 hl2 hP hD hS)
theorem g_istore_n (C : Cx E cc Ts own rm nL) {f : Fin 4} {i : Nat} {x : Int32} {lv' : List (Nat × Value)} (d : decode cc pc = .ok (.istore_n f, 1)) (hi : (f : Nat) = i) (q : Nat) (hq : pc + 1 = q) (hn : i < nL) (hl' : (i, Value.int x) :: lv.filter (fun q => !(q.1 == i) && !(q.1 + 1 == i && q.2.category == 2)) = lv') (kk : Go E k n q lv' st ws) : Go E k n pc lv (.int x :: st) ws := by
  subst hq; exact fun H locs ls hl hP hD hS => lv_istore_n C.1.1 C.1.2.1 d hi hl (by rw [C.2.2.2.2.2]; exact hn) hl' (fun ls2 hl2 => kk H locs ls2 hl2 hP hD hS)
theorem g_istore (C : Cx E cc Ts own rm nL) {i : Nat} {x : Int32} {lv' : List (Nat × Value)} (d : decode cc pc = .ok (.istore i, 2)) (q : Nat) (hq : pc + 2 = q) (hn : i < nL) (hl' : (i, Value.int x) :: lv.filter (fun q => !(q.1 == i) && !(q.1 + 1 == i && q.2.category == 2)) = lv') (kk : Go E k n q lv' st ws) : Go E k n pc lv (.int x :: st) ws := by
  subst hq; exact fun H locs ls hl hP hD hS => lv_istore C.1.1 C.1.2.1 d hl (by rw [C.2.2.2.2.2]; exact hn) hl' (fun ls2 hl2 => kk H locs ls2 hl2 hP hD hS)
theorem g_lstore_n (C : Cx E cc Ts own rm nL) {f : Fin 4} {i : Nat} {x : Int64} {lv' : List (Nat × Value)} (d : decode cc pc = .ok (.lstore_n f, 1)) (hi : (f : Nat) = i) (q : Nat) (hq : pc + 1 = q) (hn : i + 1 < nL) (hl' : (i, Value.long x) :: lv.filter (fun q => !(q.1 == i) && (!(q.1 == i + 1) && !(q.1 + 1 == i && q.2.category == 2))) = lv') (kk : Go E k n q lv' st ws) : Go E k n pc lv (.long x :: st) ws := by
  subst hq; exact fun H locs ls hl hP hD hS => lv_lstore_n C.1.1 C.1.2.1 d hi hl (by rw [C.2.2.2.2.2]; exact hn) hl' (fun ls2 hl2 => kk H locs ls2 hl2 hP hD hS)
theorem g_lstore (C : Cx E cc Ts own rm nL) {i : Nat} {x : Int64} {lv' : List (Nat × Value)} (d : decode cc pc = .ok (.lstore i, 2)) (q : Nat) (hq : pc + 2 = q) (hn : i + 1 < nL) (hl' : (i, Value.long x) :: lv.filter (fun q => !(q.1 == i) && (!(q.1 == i + 1) && !(q.1 + 1 == i && q.2.category == 2))) = lv') (kk : Go E k n q lv' st ws) : Go E k n pc lv (.long x :: st) ws := by
  subst hq; exact fun H locs ls hl hP hD hS => lv_lstore C.1.1 C.1.2.1 d hl (by rw [C.2.2.2.2.2]; exact hn) hl' (fun ls2 hl2 => kk H locs ls2 hl2 hP hD hS)
theorem g_iinc (C : Cx E cc Ts own rm nL) {i a : Nat} {lv' : List (Nat × Value)} (d : decode cc pc = .ok (.iinc i 1, 3)) (q : Nat) (hq : pc + 3 = q) (j : Nat) (hj : lv[j]? = some (i, .int (nI a))) (hn : i < nL) (hl' : (i, Value.int (nI (a + 1))) :: lv.filter (fun q => !(q.1 == i) && !(q.1 + 1 == i && q.2.category == 2)) = lv') (kk : Go E k n q lv' st ws) : Go E k n pc lv st ws := by
  subst hq; exact fun H locs ls hl hP hD hS => lv_iinc (v := nI (a + 1)) C.1.1 C.1.2.1 d hl hj (by rw [← nI_1]; rfl) (by rw [C.2.2.2.2.2]; exact hn) hl' (fun ls2 hl2 => kk H locs ls2 hl2 hP hD hS)
theorem g_idec (C : Cx E cc Ts own rm nL) {i a : Nat} {lv' : List (Nat × Value)} (d : decode cc pc = .ok (.iinc i (-1), 3)) (q : Nat) (hq : pc + 3 = q) (j : Nat) (hj : lv[j]? = some (i, .int (oI (a + 1)))) (hn : i < nL) (hl' : (i, Value.int (oI a)) :: lv.filter (fun q => !(q.1 == i) && !(q.1 + 1 == i && q.2.category == 2)) = lv') (kk : Go E k n q lv' st ws) : Go E k n pc lv st ws := by
  subst hq; exact fun H locs ls hl hP hD hS => lv_iinc (v := oI a) C.1.1 C.1.2.1 d hl hj (by rw [oI_s]; show nI a + (-1) = nI a - 1; rw [Int32.sub_eq_add_neg]) (by rw [C.2.2.2.2.2]; exact hn) hl' (fun ls2 hl2 => kk H locs ls2 hl2 hP hD hS)
theorem g_iconst (C : Cx E cc Ts own rm nL) {z : Int} {v : Int32} (d : decode cc pc = .ok (.iconst z, 1)) (hv : Int32.ofInt z = v) (q : Nat) (hq : pc + 1 = q) (kk : Go E k n q lv (.int v :: st) ws) : Go E k n pc lv st ws := by
  subst hq; exact fun H locs ls hl hP hD hS => lv_iconst C.1.1 C.1.2.1 d hv (kk H locs ls hl hP hD hS)
theorem g_bipush (C : Cx E cc Ts own rm nL) {z : Int} {v : Int32} (d : decode cc pc = .ok (.bipush z, 2)) (hv : (Int8.ofInt z).toInt32 = v) (q : Nat) (hq : pc + 2 = q) (kk : Go E k n q lv (.int v :: st) ws) : Go E k n pc lv st ws := by
  subst hq; exact fun H locs ls hl hP hD hS => lv_bipush C.1.1 C.1.2.1 d hv (kk H locs ls hl hP hD hS)
theorem g_sipush (C : Cx E cc Ts own rm nL) {z : Int} {v : Int32} (d : decode cc pc = .ok (.sipush z, 3)) (hv : (Int16.ofInt z).toInt32 = v) (q : Nat) (hq : pc + 3 = q) (kk : Go E k n q lv (.int v :: st) ws) : Go E k n pc lv st ws := by
  subst hq; exact fun H locs ls hl hP hD hS => lv_sipush C.1.1 C.1.2.1 d hv (kk H locs ls hl hP hD hS)
theorem g_lconst (C : Cx E cc Ts own rm nL) {z : Fin 2} {v : Int64} (d : decode cc pc = .ok (.lconst z, 1)) (hv : Int64.ofNat (z : Nat) = v) (q : Nat) (hq : pc + 1 = q) (kk : Go E k n q lv (.long v :: st) ws) : Go E k n pc lv st ws := by
  subst hq; exact fun H locs ls hl hP hD hS => lv_lconst C.1.1 C.1.2.1 d hv (kk H locs ls hl hP hD hS)
theorem g_ldc2 (C : Cx E cc Ts own rm nL) {i : Nat} {v v' : Int64} (hc : (Jvm.Cond.constantLong own i v).before (eG E) (eS E) = true) (hv : v = v') (d : decode cc pc = .ok (.ldc2_w i, 3)) (q : Nat) (hq : pc + 3 = q) (kk : Go E k n q lv (.long v' :: st) ws) : Go E k n pc lv st ws := by
  subst hq; subst hv; exact fun H locs ls hl hP hD hS => lv_ldc2 C.1.1 C.1.2.1 C.1.2.2.2.1 hc d (kk H locs ls hl hP hD hS)
theorem g_iadd (C : Cx E cc Ts own rm nL) {x y z : Int32} (d : decode cc pc = .ok (.iadd, 1)) (q : Nat) (hq : pc + 1 = q) (hz : x + y = z) (kk : Go E k n q lv (.int z :: st) ws) : Go E k n pc lv (.int y :: .int x :: st) ws := by
  subst hq; subst hz; exact fun H locs ls hl hP hD hS => lv_iadd C.1.1 C.1.2.1 d (kk H locs ls hl hP hD hS)
theorem g_isub (C : Cx E cc Ts own rm nL) {x y z : Int32} (d : decode cc pc = .ok (.isub, 1)) (q : Nat) (hq : pc + 1 = q) (hz : x - y = z) (kk : Go E k n q lv (.int z :: st) ws) : Go E k n pc lv (.int y :: .int x :: st) ws := by
  subst hq; subst hz; exact fun H locs ls hl hP hD hS => lv_isub C.1.1 C.1.2.1 d (kk H locs ls hl hP hD hS)
theorem g_imul (C : Cx E cc Ts own rm nL) {x y z : Int32} (d : decode cc pc = .ok (.imul, 1)) (q : Nat) (hq : pc + 1 = q) (hz : x * y = z) (kk : Go E k n q lv (.int z :: st) ws) : Go E k n pc lv (.int y :: .int x :: st) ws := by
  subst hq; subst hz; exact fun H locs ls hl hP hD hS => lv_imul C.1.1 C.1.2.1 d (kk H locs ls hl hP hD hS)
theorem g_iand (C : Cx E cc Ts own rm nL) {x y z : Int32} (d : decode cc pc = .ok (.iand, 1)) (q : Nat) (hq : pc + 1 = q) (hz : x &&& y = z) (kk : Go E k n q lv (.int z :: st) ws) : Go E k n pc lv (.int y :: .int x :: st) ws := by
  subst hq; subst hz; exact fun H locs ls hl hP hD hS => lv_iand C.1.1 C.1.2.1 d (kk H locs ls hl hP hD hS)
theorem g_ior (C : Cx E cc Ts own rm nL) {x y z : Int32} (d : decode cc pc = .ok (.ior, 1)) (q : Nat) (hq : pc + 1 = q) (hz : x ||| y = z) (kk : Go E k n q lv (.int z :: st) ws) : Go E k n pc lv (.int y :: .int x :: st) ws := by
  subst hq; subst hz; exact fun H locs ls hl hP hD hS => lv_ior C.1.1 C.1.2.1 d (kk H locs ls hl hP hD hS)
theorem g_ixor (C : Cx E cc Ts own rm nL) {x y z : Int32} (d : decode cc pc = .ok (.ixor, 1)) (q : Nat) (hq : pc + 1 = q) (hz : x ^^^ y = z) (kk : Go E k n q lv (.int z :: st) ws) : Go E k n pc lv (.int y :: .int x :: st) ws := by
  subst hq; subst hz; exact fun H locs ls hl hP hD hS => lv_ixor C.1.1 C.1.2.1 d (kk H locs ls hl hP hD hS)
theorem g_ishl (C : Cx E cc Ts own rm nL) {x y z : Int32} (d : decode cc pc = .ok (.ishl, 1)) (q : Nat) (hq : pc + 1 = q) (hz : x <<< (y &&& 31) = z) (kk : Go E k n q lv (.int z :: st) ws) : Go E k n pc lv (.int y :: .int x :: st) ws := by
  subst hq; subst hz; exact fun H locs ls hl hP hD hS => lv_ishl C.1.1 C.1.2.1 d (kk H locs ls hl hP hD hS)
theorem g_ishr (C : Cx E cc Ts own rm nL) {x y z : Int32} (d : decode cc pc = .ok (.ishr, 1)) (q : Nat) (hq : pc + 1 = q) (hz : x >>> (y &&& 31) = z) (kk : Go E k n q lv (.int z :: st) ws) : Go E k n pc lv (.int y :: .int x :: st) ws := by
  subst hq; subst hz; exact fun H locs ls hl hP hD hS => lv_ishr C.1.1 C.1.2.1 d (kk H locs ls hl hP hD hS)
theorem g_idiv (C : Cx E cc Ts own rm nL) {x y z : Int32} (d : decode cc pc = .ok (.idiv, 1)) (hne : ¬ y = 0) (q : Nat) (hq : pc + 1 = q) (hz : x / y = z) (kk : Go E k n q lv (.int z :: st) ws) : Go E k n pc lv (.int y :: .int x :: st) ws := by
  subst hq; subst hz; exact fun H locs ls hl hP hD hS => lv_idiv C.1.1 C.1.2.1 d hne (kk H locs ls hl hP hD hS)
theorem g_irem (C : Cx E cc Ts own rm nL) {x y z : Int32} (d : decode cc pc = .ok (.irem, 1)) (hne : ¬ y = 0) (q : Nat) (hq : pc + 1 = q) (hz : x - x / y * y = z) (kk : Go E k n q lv (.int z :: st) ws) : Go E k n pc lv (.int y :: .int x :: st) ws := by
  subst hq; subst hz; exact fun H locs ls hl hP hD hS => lv_irem C.1.1 C.1.2.1 d hne (kk H locs ls hl hP hD hS)
theorem g_ladd (C : Cx E cc Ts own rm nL) {x y z : Int64} (d : decode cc pc = .ok (.ladd, 1)) (q : Nat) (hq : pc + 1 = q) (hz : x + y = z) (kk : Go E k n q lv (.long z :: st) ws) : Go E k n pc lv (.long y :: .long x :: st) ws := by
  subst hq; subst hz; exact fun H locs ls hl hP hD hS => lv_ladd C.1.1 C.1.2.1 d (kk H locs ls hl hP hD hS)
theorem g_lsub (C : Cx E cc Ts own rm nL) {x y z : Int64} (d : decode cc pc = .ok (.lsub, 1)) (q : Nat) (hq : pc + 1 = q) (hz : x - y = z) (kk : Go E k n q lv (.long z :: st) ws) : Go E k n pc lv (.long y :: .long x :: st) ws := by
  subst hq; subst hz; exact fun H locs ls hl hP hD hS => lv_lsub C.1.1 C.1.2.1 d (kk H locs ls hl hP hD hS)
theorem g_i2l (C : Cx E cc Ts own rm nL) {x : Int32} {v : Int64} (d : decode cc pc = .ok (.i2l, 1)) (hv : x.toInt64 = v) (q : Nat) (hq : pc + 1 = q) (kk : Go E k n q lv (.long v :: st) ws) : Go E k n pc lv (.int x :: st) ws := by
  subst hq; exact fun H locs ls hl hP hD hS => lv_i2l C.1.1 C.1.2.1 d hv (kk H locs ls hl hP hD hS)
theorem g_dup (C : Cx E cc Ts own rm nL) {v : Value} (d : decode cc pc = .ok (.dup, 1)) (hv : v.category = 1) (q : Nat) (hq : pc + 1 = q) (kk : Go E k n q lv (v :: v :: st) ws) : Go E k n pc lv (v :: st) ws := by
  subst hq; exact fun H locs ls hl hP hD hS => lv_dup C.1.1 C.1.2.1 d hv (kk H locs ls hl hP hD hS)
theorem g_dup2 (C : Cx E cc Ts own rm nL) {v u : Value} (d : decode cc pc = .ok (.dup2, 1)) (hv : v.category = 1) (hu : u.category = 1) (q : Nat) (hq : pc + 1 = q) (kk : Go E k n q lv (v :: u :: v :: u :: st) ws) : Go E k n pc lv (v :: u :: st) ws := by
  subst hq; exact fun H locs ls hl hP hD hS => lv_dup2_11 C.1.1 C.1.2.1 d hv hu (kk H locs ls hl hP hD hS)
theorem g_goto (C : Cx E cc Ts own rm nL) {off : Int} (d : decode cc pc = .ok (.goto off, 3)) (t : Nat) (ht : (pc : Int) + off = (t : Int)) (kk : Go E k n t lv st ws) : Go E k n pc lv st ws := fun H locs ls hl hP hD hS => lv_goto C.1.1 C.1.2.1 d ht (kk H locs ls hl hP hD hS)
theorem g_icmp_eq (C : Cx E cc Ts own rm nL) {x y : Int32} {off : Int} {X : Prop} (d : decode cc pc = .ok (.if_icmp .eq off, 3)) (t : Nat) (ht : (pc : Int) + off = (t : Int)) (q : Nat) (hq : pc + 3 = q) (hX : x = y ↔ X) (kt : X → Go E k n t lv st ws) (kf : ¬ X → Go E k n q lv st ws) : Go E k n pc lv (.int y :: .int x :: st) ws := by
  subst hq; exact fun H locs ls hl hP hD hS => lv_icmp_eq C.1.1 C.1.2.1 d ht (fun c => kt (hX.mp c) H locs ls hl hP hD hS) (fun c => kf (fun h => c (hX.mpr h)) H locs ls hl hP hD hS)
theorem g_if_eq (C : Cx E cc Ts own rm nL) {x : Int32} {off : Int} {X : Prop} (d : decode cc pc = .ok (.ifCond .eq off, 3)) (t : Nat) (ht : (pc : Int) + off = (t : Int)) (q : Nat) (hq : pc + 3 = q) (hX : x = 0 ↔ X) (kt : X → Go E k n t lv st ws) (kf : ¬ X → Go E k n q lv st ws) : Go E k n pc lv (.int x :: st) ws := by
  subst hq; exact fun H locs ls hl hP hD hS => lv_if_eq C.1.1 C.1.2.1 d ht (fun c => kt (hX.mp c) H locs ls hl hP hD hS) (fun c => kf (fun h => c (hX.mpr h)) H locs ls hl hP hD hS)
theorem g_lcmp_eq (C : Cx E cc Ts own rm nL) {x y : Int64} {off : Int} {X : Prop} (d1 : decode cc pc = .ok (.lcmp, 1)) {p1 : Nat} (h1 : pc + 1 = p1) (d : decode cc p1 = .ok (.ifCond .eq off, 3)) (t : Nat) (ht : (p1 : Int) + off = (t : Int)) (q : Nat) (hq : p1 + 3 = q) (hX : x = y ↔ X) (kt : X → Go E k n t lv st ws) (kf : ¬ X → Go E k n q lv st ws) : Go E k n pc lv (.long y :: .long x :: st) ws := by
  subst h1; exact fun H locs ls hl hP hD hS => W.lcmp C.1.1 C.1.2.1 d1 (g_if_eq (x := lg_cmp x y) C d t ht q hq ((lg_cmp_eq x y).trans hX) kt kf H locs ls hl hP hD hS)
theorem g_icmp_ne (C : Cx E cc Ts own rm nL) {x y : Int32} {off : Int} {X : Prop} (d : decode cc pc = .ok (.if_icmp .ne off, 3)) (t : Nat) (ht : (pc : Int) + off = (t : Int)) (q : Nat) (hq : pc + 3 = q) (hX : ¬ x = y ↔ X) (kt : X → Go E k n t lv st ws) (kf : ¬ X → Go E k n q lv st ws) : Go E k n pc lv (.int y :: .int x :: st) ws := by
  subst hq; exact fun H locs ls hl hP hD hS => lv_icmp_ne C.1.1 C.1.2.1 d ht (fun c => kt (hX.mp c) H locs ls hl hP hD hS) (fun c => kf (fun h => (hX.mpr h) c) H locs ls hl hP hD hS)
theorem g_if_ne (C : Cx E cc Ts own rm nL) {x : Int32} {off : Int} {X : Prop} (d : decode cc pc = .ok (.ifCond .ne off, 3)) (t : Nat) (ht : (pc : Int) + off = (t : Int)) (q : Nat) (hq : pc + 3 = q) (hX : ¬ x = 0 ↔ X) (kt : X → Go E k n t lv st ws) (kf : ¬ X → Go E k n q lv st ws) : Go E k n pc lv (.int x :: st) ws := by
  subst hq; exact fun H locs ls hl hP hD hS => lv_if_ne C.1.1 C.1.2.1 d ht (fun c => kt (hX.mp c) H locs ls hl hP hD hS) (fun c => kf (fun h => (hX.mpr h) c) H locs ls hl hP hD hS)
theorem g_lcmp_ne (C : Cx E cc Ts own rm nL) {x y : Int64} {off : Int} {X : Prop} (d1 : decode cc pc = .ok (.lcmp, 1)) {p1 : Nat} (h1 : pc + 1 = p1) (d : decode cc p1 = .ok (.ifCond .ne off, 3)) (t : Nat) (ht : (p1 : Int) + off = (t : Int)) (q : Nat) (hq : p1 + 3 = q) (hX : ¬ x = y ↔ X) (kt : X → Go E k n t lv st ws) (kf : ¬ X → Go E k n q lv st ws) : Go E k n pc lv (.long y :: .long x :: st) ws := by
  subst h1; exact fun H locs ls hl hP hD hS => W.lcmp C.1.1 C.1.2.1 d1 (g_if_ne (x := lg_cmp x y) C d t ht q hq ((not_congr (lg_cmp_eq x y)).trans hX) kt kf H locs ls hl hP hD hS)
theorem g_icmp_lt (C : Cx E cc Ts own rm nL) {x y : Int32} {off : Int} {X : Prop} (d : decode cc pc = .ok (.if_icmp .lt off, 3)) (t : Nat) (ht : (pc : Int) + off = (t : Int)) (q : Nat) (hq : pc + 3 = q) (hX : x < y ↔ X) (kt : X → Go E k n t lv st ws) (kf : ¬ X → Go E k n q lv st ws) : Go E k n pc lv (.int y :: .int x :: st) ws := by
  subst hq; exact fun H locs ls hl hP hD hS => lv_icmp_lt C.1.1 C.1.2.1 d ht (fun c => kt (hX.mp c) H locs ls hl hP hD hS) (fun c => kf (fun h => c (hX.mpr h)) H locs ls hl hP hD hS)
theorem g_if_lt (C : Cx E cc Ts own rm nL) {x : Int32} {off : Int} {X : Prop} (d : decode cc pc = .ok (.ifCond .lt off, 3)) (t : Nat) (ht : (pc : Int) + off = (t : Int)) (q : Nat) (hq : pc + 3 = q) (hX : x < 0 ↔ X) (kt : X → Go E k n t lv st ws) (kf : ¬ X → Go E k n q lv st ws) : Go E k n pc lv (.int x :: st) ws := by
  subst hq; exact fun H locs ls hl hP hD hS => lv_if_lt C.1.1 C.1.2.1 d ht (fun c => kt (hX.mp c) H locs ls hl hP hD hS) (fun c => kf (fun h => c (hX.mpr h)) H locs ls hl hP hD hS)
theorem g_lcmp_lt (C : Cx E cc Ts own rm nL) {x y : Int64} {off : Int} {X : Prop} (d1 : decode cc pc = .ok (.lcmp, 1)) {p1 : Nat} (h1 : pc + 1 = p1) (d : decode cc p1 = .ok (.ifCond .lt off, 3)) (t : Nat) (ht : (p1 : Int) + off = (t : Int)) (q : Nat) (hq : p1 + 3 = q) (hX : x < y ↔ X) (kt : X → Go E k n t lv st ws) (kf : ¬ X → Go E k n q lv st ws) : Go E k n pc lv (.long y :: .long x :: st) ws := by
  subst h1; exact fun H locs ls hl hP hD hS => W.lcmp C.1.1 C.1.2.1 d1 (g_if_lt (x := lg_cmp x y) C d t ht q hq ((lg_cmp_lt x y).trans hX) kt kf H locs ls hl hP hD hS)
theorem g_icmp_ge (C : Cx E cc Ts own rm nL) {x y : Int32} {off : Int} {X : Prop} (d : decode cc pc = .ok (.if_icmp .ge off, 3)) (t : Nat) (ht : (pc : Int) + off = (t : Int)) (q : Nat) (hq : pc + 3 = q) (hX : y ≤ x ↔ X) (kt : X → Go E k n t lv st ws) (kf : ¬ X → Go E k n q lv st ws) : Go E k n pc lv (.int y :: .int x :: st) ws := by
  subst hq; exact fun H locs ls hl hP hD hS => lv_icmp_ge C.1.1 C.1.2.1 d ht (fun c => kt (hX.mp c) H locs ls hl hP hD hS) (fun c => kf (fun h => c (hX.mpr h)) H locs ls hl hP hD hS)
theorem g_if_ge (C : Cx E cc Ts own rm nL) {x : Int32} {off : Int} {X : Prop} (d : decode cc pc = .ok (.ifCond .ge off, 3)) (t : Nat) (ht : (pc : Int) + off = (t : Int)) (q : Nat) (hq : pc + 3 = q) (hX : 0 ≤ x ↔ X) (kt : X → Go E k n t lv st ws) (kf : ¬ X → Go E k n q lv st ws) : Go E k n pc lv (.int x :: st) ws := by
  subst hq; exact fun H locs ls hl hP hD hS => lv_if_ge C.1.1 C.1.2.1 d ht (fun c => kt (hX.mp c) H locs ls hl hP hD hS) (fun c => kf (fun h => c (hX.mpr h)) H locs ls hl hP hD hS)
theorem g_lcmp_ge (C : Cx E cc Ts own rm nL) {x y : Int64} {off : Int} {X : Prop} (d1 : decode cc pc = .ok (.lcmp, 1)) {p1 : Nat} (h1 : pc + 1 = p1) (d : decode cc p1 = .ok (.ifCond .ge off, 3)) (t : Nat) (ht : (p1 : Int) + off = (t : Int)) (q : Nat) (hq : p1 + 3 = q) (hX : y ≤ x ↔ X) (kt : X → Go E k n t lv st ws) (kf : ¬ X → Go E k n q lv st ws) : Go E k n pc lv (.long y :: .long x :: st) ws := by
  subst h1; exact fun H locs ls hl hP hD hS => W.lcmp C.1.1 C.1.2.1 d1 (g_if_ge (x := lg_cmp x y) C d t ht q hq ((lg_cmp_ge x y).trans hX) kt kf H locs ls hl hP hD hS)
theorem g_icmp_gt (C : Cx E cc Ts own rm nL) {x y : Int32} {off : Int} {X : Prop} (d : decode cc pc = .ok (.if_icmp .gt off, 3)) (t : Nat) (ht : (pc : Int) + off = (t : Int)) (q : Nat) (hq : pc + 3 = q) (hX : y < x ↔ X) (kt : X → Go E k n t lv st ws) (kf : ¬ X → Go E k n q lv st ws) : Go E k n pc lv (.int y :: .int x :: st) ws := by
  subst hq; exact fun H locs ls hl hP hD hS => lv_icmp_gt C.1.1 C.1.2.1 d ht (fun c => kt (hX.mp c) H locs ls hl hP hD hS) (fun c => kf (fun h => c (hX.mpr h)) H locs ls hl hP hD hS)
theorem g_if_gt (C : Cx E cc Ts own rm nL) {x : Int32} {off : Int} {X : Prop} (d : decode cc pc = .ok (.ifCond .gt off, 3)) (t : Nat) (ht : (pc : Int) + off = (t : Int)) (q : Nat) (hq : pc + 3 = q) (hX : 0 < x ↔ X) (kt : X → Go E k n t lv st ws) (kf : ¬ X → Go E k n q lv st ws) : Go E k n pc lv (.int x :: st) ws := by
  subst hq; exact fun H locs ls hl hP hD hS => lv_if_gt C.1.1 C.1.2.1 d ht (fun c => kt (hX.mp c) H locs ls hl hP hD hS) (fun c => kf (fun h => c (hX.mpr h)) H locs ls hl hP hD hS)
theorem g_lcmp_gt (C : Cx E cc Ts own rm nL) {x y : Int64} {off : Int} {X : Prop} (d1 : decode cc pc = .ok (.lcmp, 1)) {p1 : Nat} (h1 : pc + 1 = p1) (d : decode cc p1 = .ok (.ifCond .gt off, 3)) (t : Nat) (ht : (p1 : Int) + off = (t : Int)) (q : Nat) (hq : p1 + 3 = q) (hX : y < x ↔ X) (kt : X → Go E k n t lv st ws) (kf : ¬ X → Go E k n q lv st ws) : Go E k n pc lv (.long y :: .long x :: st) ws := by
  subst h1; exact fun H locs ls hl hP hD hS => W.lcmp C.1.1 C.1.2.1 d1 (g_if_gt (x := lg_cmp x y) C d t ht q hq ((lg_cmp_gt x y).trans hX) kt kf H locs ls hl hP hD hS)
theorem g_icmp_le (C : Cx E cc Ts own rm nL) {x y : Int32} {off : Int} {X : Prop} (d : decode cc pc = .ok (.if_icmp .le off, 3)) (t : Nat) (ht : (pc : Int) + off = (t : Int)) (q : Nat) (hq : pc + 3 = q) (hX : x ≤ y ↔ X) (kt : X → Go E k n t lv st ws) (kf : ¬ X → Go E k n q lv st ws) : Go E k n pc lv (.int y :: .int x :: st) ws := by
  subst hq; exact fun H locs ls hl hP hD hS => lv_icmp_le C.1.1 C.1.2.1 d ht (fun c => kt (hX.mp c) H locs ls hl hP hD hS) (fun c => kf (fun h => c (hX.mpr h)) H locs ls hl hP hD hS)
theorem g_if_le (C : Cx E cc Ts own rm nL) {x : Int32} {off : Int} {X : Prop} (d : decode cc pc = .ok (.ifCond .le off, 3)) (t : Nat) (ht : (pc : Int) + off = (t : Int)) (q : Nat) (hq : pc + 3 = q) (hX : x ≤ 0 ↔ X) (kt : X → Go E k n t lv st ws) (kf : ¬ X → Go E k n q lv st ws) : Go E k n pc lv (.int x :: st) ws := by
  subst hq; exact fun H locs ls hl hP hD hS => lv_if_le C.1.1 C.1.2.1 d ht (fun c => kt (hX.mp c) H locs ls hl hP hD hS) (fun c => kf (fun h => c (hX.mpr h)) H locs ls hl hP hD hS)
theorem g_lcmp_le (C : Cx E cc Ts own rm nL) {x y : Int64} {off : Int} {X : Prop} (d1 : decode cc pc = .ok (.lcmp, 1)) {p1 : Nat} (h1 : pc + 1 = p1) (d : decode cc p1 = .ok (.ifCond .le off, 3)) (t : Nat) (ht : (p1 : Int) + off = (t : Int)) (q : Nat) (hq : p1 + 3 = q) (hX : x ≤ y ↔ X) (kt : X → Go E k n t lv st ws) (kf : ¬ X → Go E k n q lv st ws) : Go E k n pc lv (.long y :: .long x :: st) ws := by
  subst h1; exact fun H locs ls hl hP hD hS => W.lcmp C.1.1 C.1.2.1 d1 (g_if_le (x := lg_cmp x y) C d t ht q hq ((lg_cmp_le x y).trans hX) kt kf H locs ls hl hP hD hS)
theorem g_get (C : Cx E cc Ts own rm nL) {cC : String} {T : u_T} {N ci i : Nat} (hin : ∀ w ∈ u_ws cC T N, w ∈ Ts) (q0 : Nat) {a : Nat} {fs : List Value} (he : ws[q0]? = some (a, .inr (ci, fs))) (hc : vwCl[ci]? = some (cC, T, N)) (j : Nat) (hj : j < N) (hl : (Cond.fieldLink own i (T j).1 (T j).2.1 (T j).2.2.1).before (eG E) (eS E) = true) {v : Value} (hv : fs[j]? = some v) (d : decode cc pc = .ok (.getfield i, 3)) (q : Nat) (hq : pc + 3 = q) (kk : Go E k n q lv (v :: st) ws) : Go E k n pc lv (.ref a :: st) ws := by
  subst hq; exact fun H locs ls hl' hP hD hS => va_get C.1.1 C.1.2.1 C.1.2.2.2.2 hin C.1.2.2.2.1 C.2.1 hP q0 he hc j hj hl (fun _ h => h) hv d (kk H locs ls hl' hP hD hS)
theorem g_getN (C : Cx E cc Ts own rm nL) {cC host : String} {T : u_T} {N ci i : Nat} (hin : ∀ w ∈ u_ws cC T N, w ∈ Ts) (q0 : Nat) {a : Nat} {fs : List Value} (he : ws[q0]? = some (a, .inr (ci, fs))) (hc : vwCl[ci]? = some (cC, T, N)) (j : Nat) (hj : j < N) (hl : (Cond.fieldLinkNest own i (T j).1 (T j).2.1 (T j).2.2.1 host).before (eG E) (eS E) = true) {v : Value} (hv : fs[j]? = some v) (d : decode cc pc = .ok (.getfield i, 3)) (q : Nat) (hq : pc + 3 = q) (kk : Go E k n q lv (v :: st) ws) : Go E k n pc lv (.ref a :: st) ws := by
  subst hq; exact fun H locs ls hl' hP hD hS => va_getN C.1.1 C.1.2.1 C.1.2.2.2.2 hin C.1.2.2.2.1 C.2.1 hP q0 he hc j hj hl (fun _ h => h) hv d (kk H locs ls hl' hP hD hS)
theorem g_put (C : Cx E cc Ts own rm nL) {cC : String} {T : u_T} {N ci i : Nat} (hin : ∀ w ∈ u_ws cC T N, w ∈ Ts) {ty0 : Nat → FieldType} (hty : ∀ k, k < N → parseFieldDescriptor (T k).2.2.1 = some (ty0 k)) (hnm : ∀ a, a < N → ∀ b, b < N → a ≠ b → (T a).2.1 ≠ (T b).2.1) (q0 : Nat) {a : Nat} {fs : List Value} (he : ws[q0]? = some (a, .inr (ci, fs))) (hc : vwCl[ci]? = some (cC, T, N)) (j : Nat) (hj : j < N) (hl : (Cond.fieldLink own i (T j).1 (T j).2.1 (T j).2.2.1).before (eG E) (eS E) = true) (hfin : (T j).2.2.2 = false) {v : Value} {ty : FieldType} (hty2 : parseFieldDescriptor (T j).2.2.1 = some ty) (hna : narrow ty v = v) (hfit : fits ty v = true) (hlen : j < fs.length) (d : decode cc pc = .ok (.putfield i, 3)) (q : Nat) (hq : pc + 3 = q) {ws' : va_W} (hw : ws.set q0 (a, .inr (ci, fs.set j v)) = ws') (kk : Go E k n q lv st ws') : Go E k n pc lv (v :: .ref a :: st) ws := by
  subst hq; subst hw; exact fun H locs ls hl' hP hD hS => va_put C.1.1 C.1.2.1 C.1.2.2.2.2 hin ty0 hty hnm C.1.2.2.2.1 C.2.1 hP hD hS q0 he hc j hj hl (fun _ h => h) hfin hty2 hna hfit hlen d (fun H1 locs1 hP hD hS => kk H1 locs1 ls hl' hP hD hS)
theorem g_putF (C : Cx E cc Ts own rm nL) (hmn : (eT E).name = "<init>") {cC : String} {T : u_T} {N ci i : Nat} (hin : ∀ w ∈ u_ws cC T N, w ∈ Ts) {ty0 : Nat → FieldType} (hty : ∀ k, k < N → parseFieldDescriptor (T k).2.2.1 = some (ty0 k)) (hnm : ∀ a, a < N → ∀ b, b < N → a ≠ b → (T a).2.1 ≠ (T b).2.1) (q0 : Nat) {a : Nat} {fs : List Value} (he : ws[q0]? = some (a, .inr (ci, fs))) (hc : vwCl[ci]? = some (cC, T, N)) (j : Nat) (hj : j < N) (hl : (Cond.fieldLink own i (T j).1 (T j).2.1 (T j).2.2.1).before (eG E) (eS E) = true) (hfin : (T j).2.2.2 = true) (hown : (T j).1 = own) {v : Value} {ty : FieldType} (hty2 : parseFieldDescriptor (T j).2.2.1 = some ty) (hna : narrow ty v = v) (hfit : fits ty v = true) (hlen : j < fs.length) (d : decode cc pc = .ok (.putfield i, 3)) (q : Nat) (hq : pc + 3 = q) {ws' : va_W} (hw : ws.set q0 (a, .inr (ci, fs.set j v)) = ws') (kk : Go E k n q lv st ws') : Go E k n pc lv (v :: .ref a :: st) ws := by
  subst hq; subst hw; exact fun H locs ls hl' hP hD hS => va_putF C.1.1 C.1.2.1 C.1.2.2.2.2 hin ty0 hty hnm C.1.2.2.2.1 C.2.1 hP hD hS q0 he hc j hj hl (fun _ h => h) hfin hmn hown hty2 hna hfit hlen d (fun H1 locs1 hP hD hS => kk H1 locs1 ls hl' hP hD hS)
theorem g_iald (C : Cx E cc Ts own rm nL) (q0 : Nat) {a N i : Nat} {f : Nat → Int32} (ha : ws[q0]? = some (a, .inl ((eY E) 0, N, .inl f))) (hi : i < N) (hN : N < 2 ^ 31) (d : decode cc pc = .ok (.iaload, 1)) (q : Nat) (hq : pc + 1 = q) (kk : Go E k n q lv (.int (f i) :: st) ws) : Go E k n pc lv (.int (nI i) :: .ref a :: st) ws := by
  subst hq; exact fun H locs ls hl hP hD hS => va_iald C.1.1 C.1.2.1 C.2.1 hP q0 0 ha rfl (vp_in_nI hi hN) d (by rw [nI_clamp (Nat.lt_trans hi hN)]; exact kk H locs ls hl hP hD hS)
theorem g_zald (C : Cx E cc Ts own rm nL) (q0 : Nat) {a N i : Nat} {f : Nat → Int32} (ha : ws[q0]? = some (a, .inl ((eY E) 2, N, .inl f))) (hi : i < N) (hN : N < 2 ^ 31) (d : decode cc pc = .ok (.baload, 1)) (q : Nat) (hq : pc + 1 = q) (kk : Go E k n q lv (.int (f i) :: st) ws) : Go E k n pc lv (.int (nI i) :: .ref a :: st) ws := by
  subst hq; exact fun H locs ls hl hP hD hS => va_zald C.1.1 C.1.2.1 C.2.1 hP q0 2 ha rfl (vp_in_nI hi hN) d (by rw [nI_clamp (Nat.lt_trans hi hN)]; exact kk H locs ls hl hP hD hS)
theorem g_lald (C : Cx E cc Ts own rm nL) (q0 : Nat) {a N i : Nat} {f : Nat → Int64} (ha : ws[q0]? = some (a, .inl ((eY E) 1, N, .inr (.inl f)))) (hi : i < N) (hN : N < 2 ^ 31) (d : decode cc pc = .ok (.laload, 1)) (q : Nat) (hq : pc + 1 = q) (kk : Go E k n q lv (.long (f i) :: st) ws) : Go E k n pc lv (.int (nI i) :: .ref a :: st) ws := by
  subst hq; exact fun H locs ls hl hP hD hS => va_lald C.1.1 C.1.2.1 C.2.1 hP q0 1 ha rfl (vp_in_nI hi hN) d (by rw [nI_clamp (Nat.lt_trans hi hN)]; exact kk H locs ls hl hP hD hS)
theorem g_iast (C : Cx E cc Ts own rm nL) (q0 : Nat) {a N i : Nat} {x : Int32} {f : Nat → Int32} (ha : ws[q0]? = some (a, .inl ((eY E) 0, N, .inl f))) (hi : i < N) (hN : N < 2 ^ 31) (d : decode cc pc = .ok (.iastore, 1)) (q : Nat) (hq : pc + 1 = q) {ws' : va_W} {f' : Nat → Int32} (hf : upd f i x = f') (hw : ws.set q0 (a, .inl ((eY E) 0, N, .inl f')) = ws') (kk : Go E k n q lv st ws') : Go E k n pc lv (.int x :: .int (nI i) :: .ref a :: st) ws := by
  subst hq; subst hf; subst hw; exact fun H locs ls hl hP hD hS => va_iast C.1.1 C.1.2.1 C.2.1 hP hD hS q0 0 ha rfl (vp_in_nI hi hN) d (by rw [nI_clamp (Nat.lt_trans hi hN)]; exact fun H1 locs1 hP hD hS => kk H1 locs1 ls hl hP hD hS)
theorem g_last (C : Cx E cc Ts own rm nL) (q0 : Nat) {a N i : Nat} {x : Int64} {f : Nat → Int64} (ha : ws[q0]? = some (a, .inl ((eY E) 1, N, .inr (.inl f)))) (hi : i < N) (hN : N < 2 ^ 31) (d : decode cc pc = .ok (.lastore, 1)) (q : Nat) (hq : pc + 1 = q) {ws' : va_W} {f' : Nat → Int64} (hf : vp_updL f i x = f') (hw : ws.set q0 (a, .inl ((eY E) 1, N, .inr (.inl f'))) = ws') (kk : Go E k n q lv st ws') : Go E k n pc lv (.long x :: .int (nI i) :: .ref a :: st) ws := by
  subst hq; subst hf; subst hw; exact fun H locs ls hl hP hD hS => va_last C.1.1 C.1.2.1 C.2.1 hP hD hS q0 1 ha rfl (vp_in_nI hi hN) d (by rw [nI_clamp (Nat.lt_trans hi hN)]; exact fun H1 locs1 hP hD hS => kk H1 locs1 ls hl hP hD hS)
theorem nar_bI (b : Bool) : vp_nar .boolean (bI b) = bI b := by cases b <;> rfl
theorem narb_bI (b : Bool) : narrow .boolean (.int (bI b)) = .int (bI b) := by cases b <;> rfl
theorem fitb_bI (b : Bool) : fits .boolean (.int (bI b)) = true := by cases b <;> rfl
theorem g_zast (C : Cx E cc Ts own rm nL) (q0 : Nat) {a N i : Nat} {b : Bool} {f : Nat → Int32} (ha : ws[q0]? = some (a, .inl ((eY E) 2, N, .inl f))) (hi : i < N) (hN : N < 2 ^ 31) (d : decode cc pc = .ok (.bastore, 1)) (q : Nat) (hq : pc + 1 = q) {ws' : va_W} {f' : Nat → Int32} (hf : upd f i (bI b) = f') (hw : ws.set q0 (a, .inl ((eY E) 2, N, .inl f')) = ws') (kk : Go E k n q lv st ws') : Go E k n pc lv (.int (bI b) :: .int (nI i) :: .ref a :: st) ws := by
  subst hq; subst hf; subst hw; exact fun H locs ls hl hP hD hS => va_zast C.1.1 C.1.2.1 C.2.1 hP hD hS q0 2 ha rfl (vp_in_nI hi hN) d (by rw [nI_clamp (Nat.lt_trans hi hN), nar_bI]; exact fun H1 locs1 hP hD hS => kk H1 locs1 ls hl hP hD hS)
theorem g_alenI (C : Cx E cc Ts own rm nL) (q0 : Nat) {a N : Nat} {f : Nat → Int32} (ha : ws[q0]? = some (a, .inl ((eY E) 0, N, .inl f))) (d : decode cc pc = .ok (.arraylength, 1)) (q : Nat) (hq : pc + 1 = q) (kk : Go E k n q lv (.int (nI N) :: st) ws) : Go E k n pc lv (.ref a :: st) ws := by
  subst hq; exact fun H locs ls hl hP hD hS => va_alen C.1.1 C.1.2.1 C.2.1 hP q0 0 ha rfl (v := nI N) rfl d (kk H locs ls hl hP hD hS)
theorem g_alenL (C : Cx E cc Ts own rm nL) (q0 : Nat) {a N : Nat} {f : Nat → Int64} (ha : ws[q0]? = some (a, .inl ((eY E) 1, N, .inr (.inl f)))) (d : decode cc pc = .ok (.arraylength, 1)) (q : Nat) (hq : pc + 1 = q) (kk : Go E k n q lv (.int (nI N) :: st) ws) : Go E k n pc lv (.ref a :: st) ws := by
  subst hq; exact fun H locs ls hl hP hD hS => va_alen C.1.1 C.1.2.1 C.2.1 hP q0 1 ha rfl (v := nI N) rfl d (kk H locs ls hl hP hD hS)
theorem g_aald (C : Cx E cc Ts own rm nL) (q0 : Nat) {a N i : Nat} {X : Nat → Nat} (ha : ws[q0]? = some (aQ (eY E) a N X)) (hi : i < N) (hN : N < 2 ^ 31) (d : decode cc pc = .ok (.aaload, 1)) (q : Nat) (hq : pc + 1 = q) (kk : Go E k n q lv (.ref (X i) :: st) ws) : Go E k n pc lv (.int (nI i) :: .ref a :: st) ws := by
  subst hq; exact fun H locs ls hl hP hD hS => va_aldq C.1.1 C.1.2.1 C.2.1 hP q0 3 ha rfl (vp_in_nI hi hN) d (by rw [nI_clamp (Nat.lt_trans hi hN)]; exact kk H locs ls hl hP hD hS)
end GO
theorem sub_P {D : va_G} {cl : List vw_C} {ws ws' : va_W} {H : Heap} (h : va_P D cl ws H) (is : List Nat) (hs : is.map (fun i => ws[i]?) = ws'.map some) : va_P D cl ws' H := by
  intro k q hq
  have h1 : (is.map (fun i => ws[i]?))[k]? = some (some q) := by rw [hs, List.getElem?_map, hq]; rfl
  rw [List.getElem?_map] at h1
  obtain ⟨i, hi, h2⟩ := Option.map_eq_some_iff.mp h1
  exact h i q h2
/- contracts -/
def PreM (D : va_G) (cy : Nat → ClassId) (ws : va_W) (sz : Nat) (av : List Value) : Array Value → State → Prop := va_Pc av (fun U => U.heap.size = sz ∧ va_P D vwCl ws U.heap ∧ va_K D vwCl (tysOf cy) U ∧ NW U ∧ va_D (fun _ => True) ws)
theorem PreM.blind (D : va_G) (cy : Nat → ClassId) (ws : va_W) (sz : Nat) (av : List Value) : FrameBlind (PreM D cy ws sz av) := fun a U g mk q => by
  obtain ⟨q0, q1, qP, qK, qN, qD⟩ := q
  exact ⟨q0, q1, qP, va_K.moved (u := U) (U := U.calling g mk a) (Vm.Alike.refl U.vm) qK, NW.same rfl qN, qD⟩
def PostI (D : va_G) (ws ws' : va_W) (sz : Nat) (v : Int32) := va_Qi (fun r (_ : Unit) => r = v) (fun _ t => va_P D vwCl ws' t.heap ∧ va_D (va_A ws sz) ws') (va_A ws sz)
def PostL (D : va_G) (ws ws' : va_W) (sz : Nat) (v : Int64) := va_Ql (fun r (_ : Unit) => r = v) (fun _ t => va_P D vwCl ws' t.heap ∧ va_D (va_A ws sz) ws') (va_A ws sz)
def PostV (D : va_G) (ws ws' : va_W) (sz : Nat) := va_Qv (fun (_ : Unit) => True) (fun _ t => va_P D vwCl ws' t.heap ∧ va_D (va_A ws sz) ws') (va_A ws sz)
def CoI (l : Launch) (y : MethodName) (wc : List Cond) (f L : Nat) (D : va_G) (cy : Nat → ClassId) (ws : va_W) (av : List Value) (ws' : va_W) (v : Int32) : Prop := ∀ sz, Met l y wc { frames := f, cells := 0, slots := 0, locals := L } (PreM D cy ws sz av) (PostI D ws ws' sz v) 0 0 (va_A ws sz)
def CoL (l : Launch) (y : MethodName) (wc : List Cond) (f L : Nat) (D : va_G) (cy : Nat → ClassId) (ws : va_W) (av : List Value) (ws' : va_W) (v : Int64) : Prop := ∀ sz, Met l y wc { frames := f, cells := 0, slots := 0, locals := L } (PreM D cy ws sz av) (PostL D ws ws' sz v) 0 0 (va_A ws sz)
def CoV (l : Launch) (y : MethodName) (wc : List Cond) (f L : Nat) (D : va_G) (cy : Nat → ClassId) (ws : va_W) (av : List Value) (ws' : va_W) : Prop := ∀ sz, Met l y wc { frames := f, cells := 0, slots := 0, locals := L } (PreM D cy ws sz av) (PostV D ws ws' sz) 0 0 (va_A ws sz)

theorem met_i {l : Launch} {y : MethodName} {wc wc' : List Cond} {cc : ByteArray} {maxL f L : Nat} {own : String} {D : va_G} {cy : Nat → ClassId} {ws ws' : va_W} {av : List Value} {v : Int32} {lv : List (Nat × Value)} (hy : plainName y.cls = true) (hw : wc = Cond.code y cc maxL (some .int) :: wc') (hown : y.cls = own) (hlv : lv_args 0 av = lv) (hlen : (lg_sl av).length ≤ maxL)
    (body : ∀ E : Ev, eL E = l → eD E = D → eY E = cy → Cx E cc wc own { frames := f, cells := 0, slots := 0, locals := L } maxL → (∀ pc lv, decode cc pc = .ok (.ireturn, 1) → Go E 0 0 pc lv [.int v] ws') → Go E 0 0 0 lv [] ws) : CoI l y wc f L D cy ws av ws' v := by
  intro sz
  refine Met.ofW (cc := cc) (maxL := maxL) (ret := (some .int)) hy hw ?_
  intro p e s m args below meth c s₁ B hml hv
  obtain ⟨rfl, hsz, hP, hK, hN, hD0⟩ := hv
  subst hown
  subst hsz
  have hD := hD0.self (sz := s.heap.size)
  have hl := lv_entry av (n := maxL) hlen
  rw [lg_entry_eq]
  generalize (lg_sl av ++ List.replicate (maxL - (lg_sl av).length) Slot.unset).toArray = ls at hl ⊢
  rw [hlv] at hl
  have G := body (p, l, e, (headSpec wc { frames := f, cells := 0, slots := 0, locals := L }).room, s, m, av.toArray, below, meth, c, MQ below (PostI D ws ws' s.heap.size v) av.toArray s 0 0 (va_A ws s.heap.size), D, cy, va_A ws s.heap.size, s.heap, maxL) rfl rfl rfl ⟨⟨B.exec, B.bytes, hml, findClass_of_methodNamed B.named, atoms_spec (ws := wc) B.pre⟩, hK, hN, fun q h => Or.inr h, rfl, rfl⟩
    (fun pc lv d H locs ls hl hP hD hS => W.iret (v := v) B.exec B.bytes B.returns (fun t ht hW => ⟨⟨v, (), rfl, rfl, by rw [ht]; exact hP, hD⟩, hS.F ht⟩) hS.2.2 d (hlocks := B.notSynchronized))
  exact G s.heap [] ls hl hP hD va_S.rf
theorem met_z {l : Launch} {y : MethodName} {wc wc' : List Cond} {cc : ByteArray} {maxL f L : Nat} {own : String} {D : va_G} {cy : Nat → ClassId} {ws ws' : va_W} {av : List Value} {b : Bool} {lv : List (Nat × Value)} (hy : plainName y.cls = true) (hw : wc = Cond.code y cc maxL (some .boolean) :: wc') (hown : y.cls = own) (hlv : lv_args 0 av = lv) (hlen : (lg_sl av).length ≤ maxL)
    (body : ∀ E : Ev, eL E = l → eD E = D → eY E = cy → Cx E cc wc own { frames := f, cells := 0, slots := 0, locals := L } maxL → (∀ pc lv, decode cc pc = .ok (.ireturn, 1) → Go E 0 0 pc lv [.int (bI b)] ws') → Go E 0 0 0 lv [] ws) : CoI l y wc f L D cy ws av ws' (bI b) := by
  intro sz
  refine Met.ofW (cc := cc) (maxL := maxL) (ret := (some .boolean)) hy hw ?_
  intro p e s m args below meth c s₁ B hml hv
  obtain ⟨rfl, hsz, hP, hK, hN, hD0⟩ := hv
  subst hown
  subst hsz
  have hD := hD0.self (sz := s.heap.size)
  have hl := lv_entry av (n := maxL) hlen
  rw [lg_entry_eq]
  generalize (lg_sl av ++ List.replicate (maxL - (lg_sl av).length) Slot.unset).toArray = ls at hl ⊢
  rw [hlv] at hl
  have G := body (p, l, e, (headSpec wc { frames := f, cells := 0, slots := 0, locals := L }).room, s, m, av.toArray, below, meth, c, MQ below (PostI D ws ws' s.heap.size (bI b)) av.toArray s 0 0 (va_A ws s.heap.size), D, cy, va_A ws s.heap.size, s.heap, maxL) rfl rfl rfl ⟨⟨B.exec, B.bytes, hml, findClass_of_methodNamed B.named, atoms_spec (ws := wc) B.pre⟩, hK, hN, fun q h => Or.inr h, rfl, rfl⟩
    (fun pc lv d H locs ls hl hP hD hS => W.zret (v := bI b) B.exec B.bytes B.returns (narb_bI b) (fun t ht hW => ⟨⟨bI b, (), rfl, rfl, by rw [ht]; exact hP, hD⟩, hS.F ht⟩) hS.2.2 d (hlocks := B.notSynchronized))
  exact G s.heap [] ls hl hP hD va_S.rf
theorem met_l {l : Launch} {y : MethodName} {wc wc' : List Cond} {cc : ByteArray} {maxL f L : Nat} {own : String} {D : va_G} {cy : Nat → ClassId} {ws ws' : va_W} {av : List Value} {v : Int64} {lv : List (Nat × Value)} (hy : plainName y.cls = true) (hw : wc = Cond.code y cc maxL (some .long) :: wc') (hown : y.cls = own) (hlv : lv_args 0 av = lv) (hlen : (lg_sl av).length ≤ maxL)
    (body : ∀ E : Ev, eL E = l → eD E = D → eY E = cy → Cx E cc wc own { frames := f, cells := 0, slots := 0, locals := L } maxL → (∀ pc lv, decode cc pc = .ok (.lreturn, 1) → Go E 0 0 pc lv [.long v] ws') → Go E 0 0 0 lv [] ws) : CoL l y wc f L D cy ws av ws' v := by
  intro sz
  refine Met.ofW (cc := cc) (maxL := maxL) (ret := (some .long)) hy hw ?_
  intro p e s m args below meth c s₁ B hml hv
  obtain ⟨rfl, hsz, hP, hK, hN, hD0⟩ := hv
  subst hown
  subst hsz
  have hD := hD0.self (sz := s.heap.size)
  have hl := lv_entry av (n := maxL) hlen
  rw [lg_entry_eq]
  generalize (lg_sl av ++ List.replicate (maxL - (lg_sl av).length) Slot.unset).toArray = ls at hl ⊢
  rw [hlv] at hl
  have G := body (p, l, e, (headSpec wc { frames := f, cells := 0, slots := 0, locals := L }).room, s, m, av.toArray, below, meth, c, MQ below (PostL D ws ws' s.heap.size v) av.toArray s 0 0 (va_A ws s.heap.size), D, cy, va_A ws s.heap.size, s.heap, maxL) rfl rfl rfl ⟨⟨B.exec, B.bytes, hml, findClass_of_methodNamed B.named, atoms_spec (ws := wc) B.pre⟩, hK, hN, fun q h => Or.inr h, rfl, rfl⟩
    (fun pc lv d H locs ls hl hP hD hS => W.lret (v := v) B.exec B.bytes B.returns (fun t ht hW => ⟨⟨v, (), rfl, rfl, by rw [ht]; exact hP, hD⟩, hS.F ht⟩) hS.2.2 d (hlocks := B.notSynchronized))
  exact G s.heap [] ls hl hP hD va_S.rf
theorem met_v {l : Launch} {y : MethodName} {wc wc' : List Cond} {cc : ByteArray} {maxL f L : Nat} {own : String} {D : va_G} {cy : Nat → ClassId} {ws ws' : va_W} {av : List Value}  {lv : List (Nat × Value)} (hy : plainName y.cls = true) (hw : wc = Cond.code y cc maxL none :: wc') (hown : y.cls = own) (hlv : lv_args 0 av = lv) (hlen : (lg_sl av).length ≤ maxL)
    (body : ∀ E : Ev, eL E = l → eD E = D → eY E = cy → Cx E cc wc own { frames := f, cells := 0, slots := 0, locals := L } maxL → (∀ pc lv, decode cc pc = .ok (.return_, 1) → Go E 0 0 pc lv [] ws') → Go E 0 0 0 lv [] ws) : CoV l y wc f L D cy ws av ws' := by
  intro sz
  refine Met.ofW (cc := cc) (maxL := maxL) (ret := none) hy hw ?_
  intro p e s m args below meth c s₁ B hml hv
  obtain ⟨rfl, hsz, hP, hK, hN, hD0⟩ := hv
  subst hown
  subst hsz
  have hD := hD0.self (sz := s.heap.size)
  have hl := lv_entry av (n := maxL) hlen
  rw [lg_entry_eq]
  generalize (lg_sl av ++ List.replicate (maxL - (lg_sl av).length) Slot.unset).toArray = ls at hl ⊢
  rw [hlv] at hl
  have G := body (p, l, e, (headSpec wc { frames := f, cells := 0, slots := 0, locals := L }).room, s, m, av.toArray, below, meth, c, MQ below (PostV D ws ws' s.heap.size) av.toArray s 0 0 (va_A ws s.heap.size), D, cy, va_A ws s.heap.size, s.heap, maxL) rfl rfl rfl ⟨⟨B.exec, B.bytes, hml, findClass_of_methodNamed B.named, atoms_spec (ws := wc) B.pre⟩, hK, hN, fun q h => Or.inr h, rfl, rfl⟩
    (fun pc lv d H locs ls hl hP hD hS => W.vret B.exec B.bytes B.returns (fun t ht hW => ⟨⟨(), rfl, trivial, by rw [ht]; exact hP, hD⟩, hS.F ht⟩) hS.2.2 d (hlocks := B.notSynchronized))
  exact G s.heap [] ls hl hP hD va_S.rf
section GC
variable {E : Ev} {cc : ByteArray} {Ts : List Cond} {own : String} {rm : Room} {nL k n pc : Nat} {lv : List (Nat × Value)} {st st0 : List Value} {ws : va_W}
  {y : MethodName} {bytes : ByteArray} {maxL f L nA b i ci q0 N : Nat} {ret : Option FieldType} {wc wc' : List Cond} {As : List Value} {wsc wsc' wr ws2 : va_W} {cls host : String} {T : u_T} {fs : List Value}
theorem g_cVi (C : Cx E cc Ts own rm nL) {v : Int32} (hM : CoI (eL E) y wc f L (eD E) (eY E) wsc (.ref b :: As) wsc' v) (nA : Nat) (hG : GoodIn Ts (wsV own i cls y wc)) (hw : wc = Cond.code y bytes maxL ret :: wc') (hd : y.cls = cls ∧ y.cls ≠ "java/lang/invoke/MethodHandle" ∧ y.cls ≠ "java/lang/invoke/VarHandle" ∧ (parseMethodDescriptor y.desc).map (fun d => d.parameters.length) = some nA) (hR : f + 1 ≤ rm.frames ∧ 8 + (maxL + 11) + L ≤ rm.locals) (hk : k ≤ rm.cells ∧ n ≤ rm.slots) (hc : vwCl[ci]? = some (cls, T, N)) (q0 : Nat) (he : wsc[q0]? = some (b, .inr (ci, fs))) (hn : As.length = nA) (hst : st0 = As.reverse ++ .ref b :: st) (hsum : (st.map fun v => v.category).sum ≤ 8) (isC isR perm : List Nat) (hC : isC.map (fun i => ws[i]?) = wsc.map some) (hRr : isR.map (fun i => ws[i]?) = wr.map some) (hnd : va_nd isC = true ∧ va_nd isR = true) (hdis : ∀ i ∈ isR, i ∉ isC) (hp1 : perm.map (fun i => (wr ++ wsc')[i]?) = ws2.map some) (hp2 : va_nd perm = true) (d : decode cc pc = .ok (.invokevirtual i, 3)) (q : Nat) (hq : pc + 3 = q) (kk : Go E k n q lv (.int v :: st) ws2) : Go E k n pc lv st0 ws := by
  subst hq
  subst hst
  intro H locs ls hl0 hP hD hS
  have hPc : va_P (eD E) vwCl wsc H := sub_P hP isC hC
  have hDc := hD.sub (ws' := wsc) isC hnd.1 hC
  have hFc := va_free (wc := wsc) hD hS C.2.2.2.1 isC hC
  refine va_calli (va_runV (As := As) (rest := st) C.1 (hM H.size) (cwV nA C.1.2.2.2.2 hG hw rfl rfl hd (by rw [C.2.2.2.2.1]; exact hR)) ⟨PreM.blind _ _ _ _ _, va_recv C.2.1 hPc hc he, fun U hU hW => ⟨rfl, by rw [hU], by rw [hU]; exact hPc, va_K.moved hW.alike C.2.1, C.2.2.1.warm hW, hDc.weaken (fun _ _ _ _ => trivial)⟩⟩ rfl hn (hl0.1) rfl (lv_room hsum) d ⟨by rw [C.2.2.2.2.1]; exact hk.1, by rw [C.2.2.2.2.1]; exact hk.2⟩) hS (fun q _ h => hFc q h) hFc (fun r u t H1 locs1 ht hvm hw hB hz1 hk1 hS => ?_)
  obtain ⟨hP1, hD1⟩ := hB
  rw [ht] at hP1
  subst hw
  obtain ⟨hP2, hD2⟩ := va_join (wr := wr) (w1 := wsc') hP hD isC isR hC hRr hnd.2 hdis hk1 hFc hP1 hD1
  exact kk H1 locs1 ls hl0 (sub_P hP2 perm hp1) (hD2.sub perm hp2 hp1) hS
theorem g_cVNi (C : Cx E cc Ts own rm nL) {v : Int32} (hM : CoI (eL E) y wc f L (eD E) (eY E) wsc (.ref b :: As) wsc' v) (nA : Nat) (hG : GoodIn Ts wc) (hl : va_Nw (.methodLinkNest own i y host) (eS E)) (hini : Cond.initialized y.cls ∈ Ts) (hin : Cond.instanceMethod y ∈ Ts) (hsel : Cond.selects cls y y ∈ Ts) (hw : wc = Cond.code y bytes maxL ret :: wc') (hd : y.cls ≠ "java/lang/invoke/MethodHandle" ∧ y.cls ≠ "java/lang/invoke/VarHandle" ∧ (parseMethodDescriptor y.desc).map (fun d => d.parameters.length) = some nA) (hR : f + 1 ≤ rm.frames ∧ 8 + (maxL + 11) + L ≤ rm.locals) (hk : k ≤ rm.cells ∧ n ≤ rm.slots) (hc : vwCl[ci]? = some (cls, T, N)) (q0 : Nat) (he : wsc[q0]? = some (b, .inr (ci, fs))) (hn : As.length = nA) (hst : st0 = As.reverse ++ .ref b :: st) (hsum : (st.map fun v => v.category).sum ≤ 8) (isC isR perm : List Nat) (hC : isC.map (fun i => ws[i]?) = wsc.map some) (hRr : isR.map (fun i => ws[i]?) = wr.map some) (hnd : va_nd isC = true ∧ va_nd isR = true) (hdis : ∀ i ∈ isR, i ∉ isC) (hp1 : perm.map (fun i => (wr ++ wsc')[i]?) = ws2.map some) (hp2 : va_nd perm = true) (d : decode cc pc = .ok (.invokevirtual i, 3)) (q : Nat) (hq : pc + 3 = q) (kk : Go E k n q lv (.int v :: st) ws2) : Go E k n pc lv st0 ws := by
  subst hq
  subst hst
  intro H locs ls hl0 hP hD hS
  have hPc : va_P (eD E) vwCl wsc H := sub_P hP isC hC
  have hDc := hD.sub (ws' := wsc) isC hnd.1 hC
  have hFc := va_free (wc := wsc) hD hS C.2.2.2.1 isC hC
  refine va_calli (va_runVN (As := As) (rest := st) C.1 (hM H.size) ⟨va_cnB nA C.1.2.2.2.2 hG hw rfl rfl hl (C.1.2.2.2.2 _ hini) hd (by rw [C.2.2.2.2.1]; exact hR), C.1.2.2.2.2 _ hin, C.1.2.2.2.2 _ hsel⟩ ⟨PreM.blind _ _ _ _ _, va_recv C.2.1 hPc hc he, fun U hU hW => ⟨rfl, by rw [hU], by rw [hU]; exact hPc, va_K.moved hW.alike C.2.1, C.2.2.1.warm hW, hDc.weaken (fun _ _ _ _ => trivial)⟩⟩ rfl hn (hl0.1) rfl (lv_room hsum) d ⟨by rw [C.2.2.2.2.1]; exact hk.1, by rw [C.2.2.2.2.1]; exact hk.2⟩) hS (fun q _ h => hFc q h) hFc (fun r u t H1 locs1 ht hvm hw hB hz1 hk1 hS => ?_)
  obtain ⟨hP1, hD1⟩ := hB
  rw [ht] at hP1
  subst hw
  obtain ⟨hP2, hD2⟩ := va_join (wr := wr) (w1 := wsc') hP hD isC isR hC hRr hnd.2 hdis hk1 hFc hP1 hD1
  exact kk H1 locs1 ls hl0 (sub_P hP2 perm hp1) (hD2.sub perm hp2 hp1) hS
theorem g_cSi (C : Cx E cc Ts own rm nL) {v : Int32} (hM : CoI (eL E) y wc f L (eD E) (eY E) wsc As wsc' v) (nA : Nat) (hG : GoodIn Ts (va_wsS own i y wc)) (hw : wc = Cond.code y bytes maxL ret :: wc') (hd : y.cls ≠ "java/lang/invoke/MethodHandle" ∧ y.cls ≠ "java/lang/invoke/VarHandle" ∧ (parseMethodDescriptor y.desc).map (fun d => d.parameters.length) = some nA) (hR : f + 1 ≤ rm.frames ∧ 8 + (maxL + 11) + L ≤ rm.locals) (hk : k ≤ rm.cells ∧ n ≤ rm.slots) (hn : As.length = nA) (hst : st0 = As.reverse ++ st) (hsum : (st.map fun v => v.category).sum ≤ 8) (isC isR perm : List Nat) (hC : isC.map (fun i => ws[i]?) = wsc.map some) (hRr : isR.map (fun i => ws[i]?) = wr.map some) (hnd : va_nd isC = true ∧ va_nd isR = true) (hdis : ∀ i ∈ isR, i ∉ isC) (hp1 : perm.map (fun i => (wr ++ wsc')[i]?) = ws2.map some) (hp2 : va_nd perm = true) (d : decode cc pc = .ok (.invokestatic i, 3)) (q : Nat) (hq : pc + 3 = q) (kk : Go E k n q lv (.int v :: st) ws2) : Go E k n pc lv st0 ws := by
  subst hq
  subst hst
  intro H locs ls hl0 hP hD hS
  have hPc : va_P (eD E) vwCl wsc H := sub_P hP isC hC
  have hDc := hD.sub (ws' := wsc) isC hnd.1 hC
  have hFc := va_free (wc := wsc) hD hS C.2.2.2.1 isC hC
  refine va_calli (va_runS (As := As) (rest := st) C.1 (hM H.size) (va_cwS nA C.1.2.2.2.2 hG hw rfl rfl hd (by rw [C.2.2.2.2.1]; exact hR)) ⟨PreM.blind _ _ _ _ _, fun U hU hW => ⟨rfl, by rw [hU], by rw [hU]; exact hPc, va_K.moved hW.alike C.2.1, C.2.2.1.warm hW, hDc.weaken (fun _ _ _ _ => trivial)⟩⟩ rfl hn (hl0.1) rfl (lv_room hsum) d ⟨by rw [C.2.2.2.2.1]; exact hk.1, by rw [C.2.2.2.2.1]; exact hk.2⟩) hS (fun q _ h => hFc q h) hFc (fun r u t H1 locs1 ht hvm hw hB hz1 hk1 hS => ?_)
  obtain ⟨hP1, hD1⟩ := hB
  rw [ht] at hP1
  subst hw
  obtain ⟨hP2, hD2⟩ := va_join (wr := wr) (w1 := wsc') hP hD isC isR hC hRr hnd.2 hdis hk1 hFc hP1 hD1
  exact kk H1 locs1 ls hl0 (sub_P hP2 perm hp1) (hD2.sub perm hp2 hp1) hS
theorem g_cSNi (C : Cx E cc Ts own rm nL) {v : Int32} (hM : CoI (eL E) y wc f L (eD E) (eY E) wsc As wsc' v) (nA : Nat) (hG : GoodIn Ts wc) (hl : va_Nw (.methodLinkNest own i y host) (eS E)) (hini : Cond.initialized y.cls ∈ Ts) (hstt : Cond.static y ∈ Ts) (hw : wc = Cond.code y bytes maxL ret :: wc') (hd : y.cls ≠ "java/lang/invoke/MethodHandle" ∧ y.cls ≠ "java/lang/invoke/VarHandle" ∧ (parseMethodDescriptor y.desc).map (fun d => d.parameters.length) = some nA) (hR : f + 1 ≤ rm.frames ∧ 8 + (maxL + 11) + L ≤ rm.locals) (hk : k ≤ rm.cells ∧ n ≤ rm.slots) (hn : As.length = nA) (hst : st0 = As.reverse ++ st) (hsum : (st.map fun v => v.category).sum ≤ 8) (isC isR perm : List Nat) (hC : isC.map (fun i => ws[i]?) = wsc.map some) (hRr : isR.map (fun i => ws[i]?) = wr.map some) (hnd : va_nd isC = true ∧ va_nd isR = true) (hdis : ∀ i ∈ isR, i ∉ isC) (hp1 : perm.map (fun i => (wr ++ wsc')[i]?) = ws2.map some) (hp2 : va_nd perm = true) (d : decode cc pc = .ok (.invokestatic i, 3)) (q : Nat) (hq : pc + 3 = q) (kk : Go E k n q lv (.int v :: st) ws2) : Go E k n pc lv st0 ws := by
  subst hq
  subst hst
  intro H locs ls hl0 hP hD hS
  have hPc : va_P (eD E) vwCl wsc H := sub_P hP isC hC
  have hDc := hD.sub (ws' := wsc) isC hnd.1 hC
  have hFc := va_free (wc := wsc) hD hS C.2.2.2.1 isC hC
  refine va_calli (va_runSN (As := As) (rest := st) C.1 (hM H.size) ⟨va_cnB nA C.1.2.2.2.2 hG hw rfl rfl hl (C.1.2.2.2.2 _ hini) hd (by rw [C.2.2.2.2.1]; exact hR), C.1.2.2.2.2 _ hstt, trivial⟩ ⟨PreM.blind _ _ _ _ _, fun U hU hW => ⟨rfl, by rw [hU], by rw [hU]; exact hPc, va_K.moved hW.alike C.2.1, C.2.2.1.warm hW, hDc.weaken (fun _ _ _ _ => trivial)⟩⟩ rfl hn (hl0.1) rfl (lv_room hsum) d ⟨by rw [C.2.2.2.2.1]; exact hk.1, by rw [C.2.2.2.2.1]; exact hk.2⟩) hS (fun q _ h => hFc q h) hFc (fun r u t H1 locs1 ht hvm hw hB hz1 hk1 hS => ?_)
  obtain ⟨hP1, hD1⟩ := hB
  rw [ht] at hP1
  subst hw
  obtain ⟨hP2, hD2⟩ := va_join (wr := wr) (w1 := wsc') hP hD isC isR hC hRr hnd.2 hdis hk1 hFc hP1 hD1
  exact kk H1 locs1 ls hl0 (sub_P hP2 perm hp1) (hD2.sub perm hp2 hp1) hS
theorem g_cVl (C : Cx E cc Ts own rm nL) {v : Int64} (hM : CoL (eL E) y wc f L (eD E) (eY E) wsc (.ref b :: As) wsc' v) (nA : Nat) (hG : GoodIn Ts (wsV own i cls y wc)) (hw : wc = Cond.code y bytes maxL ret :: wc') (hd : y.cls = cls ∧ y.cls ≠ "java/lang/invoke/MethodHandle" ∧ y.cls ≠ "java/lang/invoke/VarHandle" ∧ (parseMethodDescriptor y.desc).map (fun d => d.parameters.length) = some nA) (hR : f + 1 ≤ rm.frames ∧ 8 + (maxL + 11) + L ≤ rm.locals) (hk : k ≤ rm.cells ∧ n ≤ rm.slots) (hc : vwCl[ci]? = some (cls, T, N)) (q0 : Nat) (he : wsc[q0]? = some (b, .inr (ci, fs))) (hn : As.length = nA) (hst : st0 = As.reverse ++ .ref b :: st) (hsum : (st.map fun v => v.category).sum ≤ 8) (isC isR perm : List Nat) (hC : isC.map (fun i => ws[i]?) = wsc.map some) (hRr : isR.map (fun i => ws[i]?) = wr.map some) (hnd : va_nd isC = true ∧ va_nd isR = true) (hdis : ∀ i ∈ isR, i ∉ isC) (hp1 : perm.map (fun i => (wr ++ wsc')[i]?) = ws2.map some) (hp2 : va_nd perm = true) (d : decode cc pc = .ok (.invokevirtual i, 3)) (q : Nat) (hq : pc + 3 = q) (kk : Go E k n q lv (.long v :: st) ws2) : Go E k n pc lv st0 ws := by
  subst hq
  subst hst
  intro H locs ls hl0 hP hD hS
  have hPc : va_P (eD E) vwCl wsc H := sub_P hP isC hC
  have hDc := hD.sub (ws' := wsc) isC hnd.1 hC
  have hFc := va_free (wc := wsc) hD hS C.2.2.2.1 isC hC
  refine va_calll (va_runV (As := As) (rest := st) C.1 (hM H.size) (cwV nA C.1.2.2.2.2 hG hw rfl rfl hd (by rw [C.2.2.2.2.1]; exact hR)) ⟨PreM.blind _ _ _ _ _, va_recv C.2.1 hPc hc he, fun U hU hW => ⟨rfl, by rw [hU], by rw [hU]; exact hPc, va_K.moved hW.alike C.2.1, C.2.2.1.warm hW, hDc.weaken (fun _ _ _ _ => trivial)⟩⟩ rfl hn (hl0.1) rfl (lv_room hsum) d ⟨by rw [C.2.2.2.2.1]; exact hk.1, by rw [C.2.2.2.2.1]; exact hk.2⟩) hS (fun q _ h => hFc q h) hFc (fun r u t H1 locs1 ht hvm hw hB hz1 hk1 hS => ?_)
  obtain ⟨hP1, hD1⟩ := hB
  rw [ht] at hP1
  subst hw
  obtain ⟨hP2, hD2⟩ := va_join (wr := wr) (w1 := wsc') hP hD isC isR hC hRr hnd.2 hdis hk1 hFc hP1 hD1
  exact kk H1 locs1 ls hl0 (sub_P hP2 perm hp1) (hD2.sub perm hp2 hp1) hS
theorem g_cVNl (C : Cx E cc Ts own rm nL) {v : Int64} (hM : CoL (eL E) y wc f L (eD E) (eY E) wsc (.ref b :: As) wsc' v) (nA : Nat) (hG : GoodIn Ts wc) (hl : va_Nw (.methodLinkNest own i y host) (eS E)) (hini : Cond.initialized y.cls ∈ Ts) (hin : Cond.instanceMethod y ∈ Ts) (hsel : Cond.selects cls y y ∈ Ts) (hw : wc = Cond.code y bytes maxL ret :: wc') (hd : y.cls ≠ "java/lang/invoke/MethodHandle" ∧ y.cls ≠ "java/lang/invoke/VarHandle" ∧ (parseMethodDescriptor y.desc).map (fun d => d.parameters.length) = some nA) (hR : f + 1 ≤ rm.frames ∧ 8 + (maxL + 11) + L ≤ rm.locals) (hk : k ≤ rm.cells ∧ n ≤ rm.slots) (hc : vwCl[ci]? = some (cls, T, N)) (q0 : Nat) (he : wsc[q0]? = some (b, .inr (ci, fs))) (hn : As.length = nA) (hst : st0 = As.reverse ++ .ref b :: st) (hsum : (st.map fun v => v.category).sum ≤ 8) (isC isR perm : List Nat) (hC : isC.map (fun i => ws[i]?) = wsc.map some) (hRr : isR.map (fun i => ws[i]?) = wr.map some) (hnd : va_nd isC = true ∧ va_nd isR = true) (hdis : ∀ i ∈ isR, i ∉ isC) (hp1 : perm.map (fun i => (wr ++ wsc')[i]?) = ws2.map some) (hp2 : va_nd perm = true) (d : decode cc pc = .ok (.invokevirtual i, 3)) (q : Nat) (hq : pc + 3 = q) (kk : Go E k n q lv (.long v :: st) ws2) : Go E k n pc lv st0 ws := by
  subst hq
  subst hst
  intro H locs ls hl0 hP hD hS
  have hPc : va_P (eD E) vwCl wsc H := sub_P hP isC hC
  have hDc := hD.sub (ws' := wsc) isC hnd.1 hC
  have hFc := va_free (wc := wsc) hD hS C.2.2.2.1 isC hC
  refine va_calll (va_runVN (As := As) (rest := st) C.1 (hM H.size) ⟨va_cnB nA C.1.2.2.2.2 hG hw rfl rfl hl (C.1.2.2.2.2 _ hini) hd (by rw [C.2.2.2.2.1]; exact hR), C.1.2.2.2.2 _ hin, C.1.2.2.2.2 _ hsel⟩ ⟨PreM.blind _ _ _ _ _, va_recv C.2.1 hPc hc he, fun U hU hW => ⟨rfl, by rw [hU], by rw [hU]; exact hPc, va_K.moved hW.alike C.2.1, C.2.2.1.warm hW, hDc.weaken (fun _ _ _ _ => trivial)⟩⟩ rfl hn (hl0.1) rfl (lv_room hsum) d ⟨by rw [C.2.2.2.2.1]; exact hk.1, by rw [C.2.2.2.2.1]; exact hk.2⟩) hS (fun q _ h => hFc q h) hFc (fun r u t H1 locs1 ht hvm hw hB hz1 hk1 hS => ?_)
  obtain ⟨hP1, hD1⟩ := hB
  rw [ht] at hP1
  subst hw
  obtain ⟨hP2, hD2⟩ := va_join (wr := wr) (w1 := wsc') hP hD isC isR hC hRr hnd.2 hdis hk1 hFc hP1 hD1
  exact kk H1 locs1 ls hl0 (sub_P hP2 perm hp1) (hD2.sub perm hp2 hp1) hS
theorem g_cSl (C : Cx E cc Ts own rm nL) {v : Int64} (hM : CoL (eL E) y wc f L (eD E) (eY E) wsc As wsc' v) (nA : Nat) (hG : GoodIn Ts (va_wsS own i y wc)) (hw : wc = Cond.code y bytes maxL ret :: wc') (hd : y.cls ≠ "java/lang/invoke/MethodHandle" ∧ y.cls ≠ "java/lang/invoke/VarHandle" ∧ (parseMethodDescriptor y.desc).map (fun d => d.parameters.length) = some nA) (hR : f + 1 ≤ rm.frames ∧ 8 + (maxL + 11) + L ≤ rm.locals) (hk : k ≤ rm.cells ∧ n ≤ rm.slots) (hn : As.length = nA) (hst : st0 = As.reverse ++ st) (hsum : (st.map fun v => v.category).sum ≤ 8) (isC isR perm : List Nat) (hC : isC.map (fun i => ws[i]?) = wsc.map some) (hRr : isR.map (fun i => ws[i]?) = wr.map some) (hnd : va_nd isC = true ∧ va_nd isR = true) (hdis : ∀ i ∈ isR, i ∉ isC) (hp1 : perm.map (fun i => (wr ++ wsc')[i]?) = ws2.map some) (hp2 : va_nd perm = true) (d : decode cc pc = .ok (.invokestatic i, 3)) (q : Nat) (hq : pc + 3 = q) (kk : Go E k n q lv (.long v :: st) ws2) : Go E k n pc lv st0 ws := by
  subst hq
  subst hst
  intro H locs ls hl0 hP hD hS
  have hPc : va_P (eD E) vwCl wsc H := sub_P hP isC hC
  have hDc := hD.sub (ws' := wsc) isC hnd.1 hC
  have hFc := va_free (wc := wsc) hD hS C.2.2.2.1 isC hC
  refine va_calll (va_runS (As := As) (rest := st) C.1 (hM H.size) (va_cwS nA C.1.2.2.2.2 hG hw rfl rfl hd (by rw [C.2.2.2.2.1]; exact hR)) ⟨PreM.blind _ _ _ _ _, fun U hU hW => ⟨rfl, by rw [hU], by rw [hU]; exact hPc, va_K.moved hW.alike C.2.1, C.2.2.1.warm hW, hDc.weaken (fun _ _ _ _ => trivial)⟩⟩ rfl hn (hl0.1) rfl (lv_room hsum) d ⟨by rw [C.2.2.2.2.1]; exact hk.1, by rw [C.2.2.2.2.1]; exact hk.2⟩) hS (fun q _ h => hFc q h) hFc (fun r u t H1 locs1 ht hvm hw hB hz1 hk1 hS => ?_)
  obtain ⟨hP1, hD1⟩ := hB
  rw [ht] at hP1
  subst hw
  obtain ⟨hP2, hD2⟩ := va_join (wr := wr) (w1 := wsc') hP hD isC isR hC hRr hnd.2 hdis hk1 hFc hP1 hD1
  exact kk H1 locs1 ls hl0 (sub_P hP2 perm hp1) (hD2.sub perm hp2 hp1) hS
theorem g_cSNl (C : Cx E cc Ts own rm nL) {v : Int64} (hM : CoL (eL E) y wc f L (eD E) (eY E) wsc As wsc' v) (nA : Nat) (hG : GoodIn Ts wc) (hl : va_Nw (.methodLinkNest own i y host) (eS E)) (hini : Cond.initialized y.cls ∈ Ts) (hstt : Cond.static y ∈ Ts) (hw : wc = Cond.code y bytes maxL ret :: wc') (hd : y.cls ≠ "java/lang/invoke/MethodHandle" ∧ y.cls ≠ "java/lang/invoke/VarHandle" ∧ (parseMethodDescriptor y.desc).map (fun d => d.parameters.length) = some nA) (hR : f + 1 ≤ rm.frames ∧ 8 + (maxL + 11) + L ≤ rm.locals) (hk : k ≤ rm.cells ∧ n ≤ rm.slots) (hn : As.length = nA) (hst : st0 = As.reverse ++ st) (hsum : (st.map fun v => v.category).sum ≤ 8) (isC isR perm : List Nat) (hC : isC.map (fun i => ws[i]?) = wsc.map some) (hRr : isR.map (fun i => ws[i]?) = wr.map some) (hnd : va_nd isC = true ∧ va_nd isR = true) (hdis : ∀ i ∈ isR, i ∉ isC) (hp1 : perm.map (fun i => (wr ++ wsc')[i]?) = ws2.map some) (hp2 : va_nd perm = true) (d : decode cc pc = .ok (.invokestatic i, 3)) (q : Nat) (hq : pc + 3 = q) (kk : Go E k n q lv (.long v :: st) ws2) : Go E k n pc lv st0 ws := by
  subst hq
  subst hst
  intro H locs ls hl0 hP hD hS
  have hPc : va_P (eD E) vwCl wsc H := sub_P hP isC hC
  have hDc := hD.sub (ws' := wsc) isC hnd.1 hC
  have hFc := va_free (wc := wsc) hD hS C.2.2.2.1 isC hC
  refine va_calll (va_runSN (As := As) (rest := st) C.1 (hM H.size) ⟨va_cnB nA C.1.2.2.2.2 hG hw rfl rfl hl (C.1.2.2.2.2 _ hini) hd (by rw [C.2.2.2.2.1]; exact hR), C.1.2.2.2.2 _ hstt, trivial⟩ ⟨PreM.blind _ _ _ _ _, fun U hU hW => ⟨rfl, by rw [hU], by rw [hU]; exact hPc, va_K.moved hW.alike C.2.1, C.2.2.1.warm hW, hDc.weaken (fun _ _ _ _ => trivial)⟩⟩ rfl hn (hl0.1) rfl (lv_room hsum) d ⟨by rw [C.2.2.2.2.1]; exact hk.1, by rw [C.2.2.2.2.1]; exact hk.2⟩) hS (fun q _ h => hFc q h) hFc (fun r u t H1 locs1 ht hvm hw hB hz1 hk1 hS => ?_)
  obtain ⟨hP1, hD1⟩ := hB
  rw [ht] at hP1
  subst hw
  obtain ⟨hP2, hD2⟩ := va_join (wr := wr) (w1 := wsc') hP hD isC isR hC hRr hnd.2 hdis hk1 hFc hP1 hD1
  exact kk H1 locs1 ls hl0 (sub_P hP2 perm hp1) (hD2.sub perm hp2 hp1) hS
theorem g_cVv (C : Cx E cc Ts own rm nL)  (hM : CoV (eL E) y wc f L (eD E) (eY E) wsc (.ref b :: As) wsc') (nA : Nat) (hG : GoodIn Ts (wsV own i cls y wc)) (hw : wc = Cond.code y bytes maxL ret :: wc') (hd : y.cls = cls ∧ y.cls ≠ "java/lang/invoke/MethodHandle" ∧ y.cls ≠ "java/lang/invoke/VarHandle" ∧ (parseMethodDescriptor y.desc).map (fun d => d.parameters.length) = some nA) (hR : f + 1 ≤ rm.frames ∧ 8 + (maxL + 11) + L ≤ rm.locals) (hk : k ≤ rm.cells ∧ n ≤ rm.slots) (hc : vwCl[ci]? = some (cls, T, N)) (q0 : Nat) (he : wsc[q0]? = some (b, .inr (ci, fs))) (hn : As.length = nA) (hst : st0 = As.reverse ++ .ref b :: st) (hsum : (st.map fun v => v.category).sum ≤ 8) (isC isR perm : List Nat) (hC : isC.map (fun i => ws[i]?) = wsc.map some) (hRr : isR.map (fun i => ws[i]?) = wr.map some) (hnd : va_nd isC = true ∧ va_nd isR = true) (hdis : ∀ i ∈ isR, i ∉ isC) (hp1 : perm.map (fun i => (wr ++ wsc')[i]?) = ws2.map some) (hp2 : va_nd perm = true) (d : decode cc pc = .ok (.invokevirtual i, 3)) (q : Nat) (hq : pc + 3 = q) (kk : Go E k n q lv (st) ws2) : Go E k n pc lv st0 ws := by
  subst hq
  subst hst
  intro H locs ls hl0 hP hD hS
  have hPc : va_P (eD E) vwCl wsc H := sub_P hP isC hC
  have hDc := hD.sub (ws' := wsc) isC hnd.1 hC
  have hFc := va_free (wc := wsc) hD hS C.2.2.2.1 isC hC
  refine va_callv (va_runV (As := As) (rest := st) C.1 (hM H.size) (cwV nA C.1.2.2.2.2 hG hw rfl rfl hd (by rw [C.2.2.2.2.1]; exact hR)) ⟨PreM.blind _ _ _ _ _, va_recv C.2.1 hPc hc he, fun U hU hW => ⟨rfl, by rw [hU], by rw [hU]; exact hPc, va_K.moved hW.alike C.2.1, C.2.2.1.warm hW, hDc.weaken (fun _ _ _ _ => trivial)⟩⟩ rfl hn (hl0.1) rfl (lv_room hsum) d ⟨by rw [C.2.2.2.2.1]; exact hk.1, by rw [C.2.2.2.2.1]; exact hk.2⟩) hS (fun q _ h => hFc q h) hFc (fun u t H1 locs1 ht hvm hw hB hz1 hk1 hS => ?_)
  obtain ⟨hP1, hD1⟩ := hB
  rw [ht] at hP1
  skip
  obtain ⟨hP2, hD2⟩ := va_join (wr := wr) (w1 := wsc') hP hD isC isR hC hRr hnd.2 hdis hk1 hFc hP1 hD1
  exact kk H1 locs1 ls hl0 (sub_P hP2 perm hp1) (hD2.sub perm hp2 hp1) hS
theorem g_cVNv (C : Cx E cc Ts own rm nL)  (hM : CoV (eL E) y wc f L (eD E) (eY E) wsc (.ref b :: As) wsc') (nA : Nat) (hG : GoodIn Ts wc) (hl : va_Nw (.methodLinkNest own i y host) (eS E)) (hini : Cond.initialized y.cls ∈ Ts) (hin : Cond.instanceMethod y ∈ Ts) (hsel : Cond.selects cls y y ∈ Ts) (hw : wc = Cond.code y bytes maxL ret :: wc') (hd : y.cls ≠ "java/lang/invoke/MethodHandle" ∧ y.cls ≠ "java/lang/invoke/VarHandle" ∧ (parseMethodDescriptor y.desc).map (fun d => d.parameters.length) = some nA) (hR : f + 1 ≤ rm.frames ∧ 8 + (maxL + 11) + L ≤ rm.locals) (hk : k ≤ rm.cells ∧ n ≤ rm.slots) (hc : vwCl[ci]? = some (cls, T, N)) (q0 : Nat) (he : wsc[q0]? = some (b, .inr (ci, fs))) (hn : As.length = nA) (hst : st0 = As.reverse ++ .ref b :: st) (hsum : (st.map fun v => v.category).sum ≤ 8) (isC isR perm : List Nat) (hC : isC.map (fun i => ws[i]?) = wsc.map some) (hRr : isR.map (fun i => ws[i]?) = wr.map some) (hnd : va_nd isC = true ∧ va_nd isR = true) (hdis : ∀ i ∈ isR, i ∉ isC) (hp1 : perm.map (fun i => (wr ++ wsc')[i]?) = ws2.map some) (hp2 : va_nd perm = true) (d : decode cc pc = .ok (.invokevirtual i, 3)) (q : Nat) (hq : pc + 3 = q) (kk : Go E k n q lv (st) ws2) : Go E k n pc lv st0 ws := by
  subst hq
  subst hst
  intro H locs ls hl0 hP hD hS
  have hPc : va_P (eD E) vwCl wsc H := sub_P hP isC hC
  have hDc := hD.sub (ws' := wsc) isC hnd.1 hC
  have hFc := va_free (wc := wsc) hD hS C.2.2.2.1 isC hC
  refine va_callv (va_runVN (As := As) (rest := st) C.1 (hM H.size) ⟨va_cnB nA C.1.2.2.2.2 hG hw rfl rfl hl (C.1.2.2.2.2 _ hini) hd (by rw [C.2.2.2.2.1]; exact hR), C.1.2.2.2.2 _ hin, C.1.2.2.2.2 _ hsel⟩ ⟨PreM.blind _ _ _ _ _, va_recv C.2.1 hPc hc he, fun U hU hW => ⟨rfl, by rw [hU], by rw [hU]; exact hPc, va_K.moved hW.alike C.2.1, C.2.2.1.warm hW, hDc.weaken (fun _ _ _ _ => trivial)⟩⟩ rfl hn (hl0.1) rfl (lv_room hsum) d ⟨by rw [C.2.2.2.2.1]; exact hk.1, by rw [C.2.2.2.2.1]; exact hk.2⟩) hS (fun q _ h => hFc q h) hFc (fun u t H1 locs1 ht hvm hw hB hz1 hk1 hS => ?_)
  obtain ⟨hP1, hD1⟩ := hB
  rw [ht] at hP1
  skip
  obtain ⟨hP2, hD2⟩ := va_join (wr := wr) (w1 := wsc') hP hD isC isR hC hRr hnd.2 hdis hk1 hFc hP1 hD1
  exact kk H1 locs1 ls hl0 (sub_P hP2 perm hp1) (hD2.sub perm hp2 hp1) hS
theorem g_cSv (C : Cx E cc Ts own rm nL)  (hM : CoV (eL E) y wc f L (eD E) (eY E) wsc As wsc') (nA : Nat) (hG : GoodIn Ts (va_wsS own i y wc)) (hw : wc = Cond.code y bytes maxL ret :: wc') (hd : y.cls ≠ "java/lang/invoke/MethodHandle" ∧ y.cls ≠ "java/lang/invoke/VarHandle" ∧ (parseMethodDescriptor y.desc).map (fun d => d.parameters.length) = some nA) (hR : f + 1 ≤ rm.frames ∧ 8 + (maxL + 11) + L ≤ rm.locals) (hk : k ≤ rm.cells ∧ n ≤ rm.slots) (hn : As.length = nA) (hst : st0 = As.reverse ++ st) (hsum : (st.map fun v => v.category).sum ≤ 8) (isC isR perm : List Nat) (hC : isC.map (fun i => ws[i]?) = wsc.map some) (hRr : isR.map (fun i => ws[i]?) = wr.map some) (hnd : va_nd isC = true ∧ va_nd isR = true) (hdis : ∀ i ∈ isR, i ∉ isC) (hp1 : perm.map (fun i => (wr ++ wsc')[i]?) = ws2.map some) (hp2 : va_nd perm = true) (d : decode cc pc = .ok (.invokestatic i, 3)) (q : Nat) (hq : pc + 3 = q) (kk : Go E k n q lv (st) ws2) : Go E k n pc lv st0 ws := by
  subst hq
  subst hst
  intro H locs ls hl0 hP hD hS
  have hPc : va_P (eD E) vwCl wsc H := sub_P hP isC hC
  have hDc := hD.sub (ws' := wsc) isC hnd.1 hC
  have hFc := va_free (wc := wsc) hD hS C.2.2.2.1 isC hC
  refine va_callv (va_runS (As := As) (rest := st) C.1 (hM H.size) (va_cwS nA C.1.2.2.2.2 hG hw rfl rfl hd (by rw [C.2.2.2.2.1]; exact hR)) ⟨PreM.blind _ _ _ _ _, fun U hU hW => ⟨rfl, by rw [hU], by rw [hU]; exact hPc, va_K.moved hW.alike C.2.1, C.2.2.1.warm hW, hDc.weaken (fun _ _ _ _ => trivial)⟩⟩ rfl hn (hl0.1) rfl (lv_room hsum) d ⟨by rw [C.2.2.2.2.1]; exact hk.1, by rw [C.2.2.2.2.1]; exact hk.2⟩) hS (fun q _ h => hFc q h) hFc (fun u t H1 locs1 ht hvm hw hB hz1 hk1 hS => ?_)
  obtain ⟨hP1, hD1⟩ := hB
  rw [ht] at hP1
  skip
  obtain ⟨hP2, hD2⟩ := va_join (wr := wr) (w1 := wsc') hP hD isC isR hC hRr hnd.2 hdis hk1 hFc hP1 hD1
  exact kk H1 locs1 ls hl0 (sub_P hP2 perm hp1) (hD2.sub perm hp2 hp1) hS
theorem g_cSNv (C : Cx E cc Ts own rm nL)  (hM : CoV (eL E) y wc f L (eD E) (eY E) wsc As wsc') (nA : Nat) (hG : GoodIn Ts wc) (hl : va_Nw (.methodLinkNest own i y host) (eS E)) (hini : Cond.initialized y.cls ∈ Ts) (hstt : Cond.static y ∈ Ts) (hw : wc = Cond.code y bytes maxL ret :: wc') (hd : y.cls ≠ "java/lang/invoke/MethodHandle" ∧ y.cls ≠ "java/lang/invoke/VarHandle" ∧ (parseMethodDescriptor y.desc).map (fun d => d.parameters.length) = some nA) (hR : f + 1 ≤ rm.frames ∧ 8 + (maxL + 11) + L ≤ rm.locals) (hk : k ≤ rm.cells ∧ n ≤ rm.slots) (hn : As.length = nA) (hst : st0 = As.reverse ++ st) (hsum : (st.map fun v => v.category).sum ≤ 8) (isC isR perm : List Nat) (hC : isC.map (fun i => ws[i]?) = wsc.map some) (hRr : isR.map (fun i => ws[i]?) = wr.map some) (hnd : va_nd isC = true ∧ va_nd isR = true) (hdis : ∀ i ∈ isR, i ∉ isC) (hp1 : perm.map (fun i => (wr ++ wsc')[i]?) = ws2.map some) (hp2 : va_nd perm = true) (d : decode cc pc = .ok (.invokestatic i, 3)) (q : Nat) (hq : pc + 3 = q) (kk : Go E k n q lv (st) ws2) : Go E k n pc lv st0 ws := by
  subst hq
  subst hst
  intro H locs ls hl0 hP hD hS
  have hPc : va_P (eD E) vwCl wsc H := sub_P hP isC hC
  have hDc := hD.sub (ws' := wsc) isC hnd.1 hC
  have hFc := va_free (wc := wsc) hD hS C.2.2.2.1 isC hC
  refine va_callv (va_runSN (As := As) (rest := st) C.1 (hM H.size) ⟨va_cnB nA C.1.2.2.2.2 hG hw rfl rfl hl (C.1.2.2.2.2 _ hini) hd (by rw [C.2.2.2.2.1]; exact hR), C.1.2.2.2.2 _ hstt, trivial⟩ ⟨PreM.blind _ _ _ _ _, fun U hU hW => ⟨rfl, by rw [hU], by rw [hU]; exact hPc, va_K.moved hW.alike C.2.1, C.2.2.1.warm hW, hDc.weaken (fun _ _ _ _ => trivial)⟩⟩ rfl hn (hl0.1) rfl (lv_room hsum) d ⟨by rw [C.2.2.2.2.1]; exact hk.1, by rw [C.2.2.2.2.1]; exact hk.2⟩) hS (fun q _ h => hFc q h) hFc (fun u t H1 locs1 ht hvm hw hB hz1 hk1 hS => ?_)
  obtain ⟨hP1, hD1⟩ := hB
  rw [ht] at hP1
  skip
  obtain ⟨hP2, hD2⟩ := va_join (wr := wr) (w1 := wsc') hP hD isC isR hC hRr hnd.2 hdis hk1 hFc hP1 hD1
  exact kk H1 locs1 ls hl0 (sub_P hP2 perm hp1) (hD2.sub perm hp2 hp1) hS
end GC
end
section
theorem oI_pos {a : Nat} (h : 0 < a) : oI a = nI (a - 1) := by
  obtain ⟨b, rfl⟩ : ∃ b, a = b + 1 := ⟨a - 1, by omega⟩
  exact oI_s b
theorem nI_lt0 {a : Nat} (h : a < 2 ^ 31) : nI a < 0 ↔ False := ⟨fun h2 => absurd h2 (nI_pos h), False.elim⟩
theorem nI_ge0 {a : Nat} (h : a < 2 ^ 31) : 0 ≤ nI a ↔ True := ⟨fun _ => trivial, fun _ => nI_pos' h⟩
theorem oI_lt0 {a : Nat} (h : a < 2 ^ 31) : oI a < 0 ↔ a = 0 := by
  cases a with
  | zero => simp only [oI_0]; decide
  | succ a => rw [oI_s]; exact ⟨fun h2 => absurd h2 (nI_pos (by omega)), fun h2 => by omega⟩
theorem oI_ge0 {a : Nat} (h : a < 2 ^ 31) : 0 ≤ oI a ↔ 0 < a := by
  cases a with
  | zero => simp only [oI_0]; decide
  | succ a => rw [oI_s]; exact ⟨fun _ => by omega, fun _ => nI_pos' (by omega)⟩
theorem z_sl : ∀ n, n < 32 → ((nI n &&& 31).toBitVec.smod 32).toNat = n := by decide +kernel
theorem z_shl {a j : Nat} (hj : j < 32) (h : a * 2 ^ j < 2 ^ 32) : nI a <<< (nI j &&& 31) = nI (a * 2 ^ j) := pk_shlN _ j (z_sl j hj) h
theorem z_shr {a j : Nat} (hj : j < 32) (h : a < 2 ^ 31) : nI a >>> (nI j &&& 31) = nI (a / 2 ^ j) := pk_shrN h _ j (z_sl j hj)
theorem z_and (a b : Nat) : nI a &&& nI b = nI (a &&& b) := by
  apply Int32.toBitVec_inj.mp
  show BitVec.ofNat 32 a &&& BitVec.ofNat 32 b = BitVec.ofNat 32 (a &&& b)
  apply BitVec.eq_of_getLsbD_eq
  intro i hi
  simp [BitVec.getLsbD_and, BitVec.getLsbD_ofNat, hi, Nat.testBit_and]
theorem z_or (a b : Nat) : nI a ||| nI b = nI (a ||| b) := by
  apply Int32.toBitVec_inj.mp
  show BitVec.ofNat 32 a ||| BitVec.ofNat 32 b = BitVec.ofNat 32 (a ||| b)
  apply BitVec.eq_of_getLsbD_eq
  intro i hi
  simp [BitVec.getLsbD_or, BitVec.getLsbD_ofNat, hi, Nat.testBit_or]
theorem rv_of {a : Nat} (h : a ≠ 9000000000000000000) : rv a = lN a := by simp [rv, h]
theorem rv_NV : rv 9000000000000000000 = -1 := by decide
theorem rv_lt0 {a : Nat} (h : a ≤ 9000000000000000000) : rv a < 0 ↔ a = 9000000000000000000 := by
  by_cases e : a = 9000000000000000000
  · subst e; simp only [rv_NV]; decide
  · rw [rv_of e]
    have := (pk_lLT (a := a) (b := 0) (by omega) (by decide))
    constructor
    · intro h2; exact absurd (this.mp h2) (by omega)
    · intro h2; exact absurd h2 e
theorem rv_ge0 {a : Nat} (h : a ≤ 9000000000000000000) : 0 ≤ rv a ↔ ¬ a = 9000000000000000000 := by
  rw [← rv_lt0 h]
  simp only [Int64.lt_iff_toInt_lt, Int64.le_iff_toInt_le]
  omega
theorem rv_eq {a b : Nat} (ha : a ≤ 9000000000000000000) (hb : b ≤ 9000000000000000000) : rv a = rv b ↔ a = b := by
  constructor
  · intro h
    by_cases e : a = 9000000000000000000
    · have h1 := (rv_lt0 ha).mpr e
      rw [h] at h1
      rw [e, (rv_lt0 hb).mp h1]
    · by_cases f : b = 9000000000000000000
      · have h1 := (rv_lt0 hb).mpr f
        rw [← h] at h1
        exact absurd ((rv_lt0 ha).mp h1) e
      · rw [rv_of e, rv_of f] at h
        exact (pk_lEQ (by omega) (by omega)).mp h
  · intro h; rw [h]
section GM
variable {E : Ev} {cc : ByteArray} {Ts : List Cond} {own : String} {rm : Room} {nL k n pc : Nat} {lv : List (Nat × Value)} {st : List Value} {ws : va_W}
theorem g_max (C : Cx E cc Ts own rm nL) {i : Nat} (h1 : Cond.methodLink own i Lib.Math.max.name ∈ Ts) (h2 : Cond.static Lib.Math.max.name ∈ Ts) (h3 : Cond.initialized "java/lang/Math" ∈ Ts) (h4 : Cond.code Lib.Math.max.name Lib.Math.max.code 2 (some .int) ∈ Ts) (hf : 1 ≤ rm.frames) (hl : (st.map fun v => v.category).sum + 13 ≤ rm.locals) (hk : k ≤ rm.cells ∧ n ≤ rm.slots) {a b : Nat} (ha : a < 2 ^ 31) (hb : b < 2 ^ 31) (d : decode cc pc = .ok (.invokestatic i, 3)) (q : Nat) (hq : pc + 3 = q) (kk : Go E k n q lv (.int (nI (max a b)) :: st) ws) : Go E k n pc lv (.int (nI b) :: .int (nI a) :: st) ws := by
  subst hq
  have e : (if nI a < nI b then nI b else nI a) = nI (max a b) := by
    by_cases h : a < b
    · rw [if_pos ((nI_ltI ha hb).mpr h), Nat.max_eq_right (by omega)]
    · rw [if_neg (fun q => h ((nI_ltI ha hb).mp q)), Nat.max_eq_left (by omega)]
  intro H locs ls hl0 hP hD hS
  refine va_mmax C.1.1 C.1.2.1 (by rw [C.1.2.2.1, hl0.1]) C.1.2.2.2.1 (C.1.2.2.2.2 _ h1) (C.1.2.2.2.2 _ h2) (C.1.2.2.2.2 _ h3) (C.1.2.2.2.2 _ h4) (by rw [C.2.2.2.2.1]; exact hf) (by rw [C.2.2.2.2.1]; exact hl) (by rw [C.2.2.2.2.1]; exact hk.1) (by rw [C.2.2.2.2.1]; exact hk.2) d ?_
  rw [e]
  exact kk H locs ls hl0 hP hD hS
theorem g_minL (C : Cx E cc Ts own rm nL) {i : Nat} (h1 : Cond.methodLink own i Lib.MathLoose.min_long.x ∈ Ts) (h2 : Cond.static Lib.MathLoose.min_long.x ∈ Ts) (h3 : Cond.initialized "java/lang/Math" ∈ Ts) (h4 : Cond.code Lib.MathLoose.min_long.x Lib.MathLoose.min_long.code 4 (some .long) ∈ Ts) (hf : 1 ≤ rm.frames) (hl : (st.map fun v => v.category).sum + 15 ≤ rm.locals) (hk : k ≤ rm.cells ∧ n ≤ rm.slots) {a b : Nat} (ha : a < 2 ^ 63) (hb : b < 2 ^ 63) (d : decode cc pc = .ok (.invokestatic i, 3)) (q : Nat) (hq : pc + 3 = q) (kk : Go E k n q lv (.long (lN (min a b)) :: st) ws) : Go E k n pc lv (.long (lN b) :: .long (lN a) :: st) ws := by
  subst hq
  have e : (if lN b < lN a then lN b else lN a) = lN (min a b) := by
    by_cases h : b < a
    · rw [if_pos ((pk_lLT hb ha).mpr h), Nat.min_eq_right (by omega)]
    · rw [if_neg (fun q => h ((pk_lLT hb ha).mp q)), Nat.min_eq_left (by omega)]
  intro H locs ls hl0 hP hD hS
  refine va_mmin_long C.1.1 C.1.2.1 (by rw [C.1.2.2.1, hl0.1]) C.1.2.2.2.1 (C.1.2.2.2.2 _ h1) (C.1.2.2.2.2 _ h2) (C.1.2.2.2.2 _ h3) (C.1.2.2.2.2 _ h4) (by rw [C.2.2.2.2.1]; exact hf) (by rw [C.2.2.2.2.1]; exact hl) (by rw [C.2.2.2.2.1]; exact hk.1) (by rw [C.2.2.2.2.1]; exact hk.2) d ?_
  rw [e]
  exact kk H locs ls hl0 hP hD hS
end GM
end
section
def inR (x : Int32) (n : Nat) : Bool := decide (0 ≤ x.toInt ∧ x.toInt < n)
theorem inR_lt {x : Int32} {n : Nat} (h : x < 0) : inR x n = false := by
  rw [Int32.lt_iff_toInt_lt] at h
  simp [inR]; intro h2; exact absurd h (by simpa using h2)
theorem inR_ge {x : Int32} {n : Nat} (hn : n < 2 ^ 31) (h : nI n ≤ x) : inR x n = false := by
  rw [Int32.le_iff_toInt_le, nI_toInt hn] at h
  simp [inR]; omega
theorem inR_t {x : Int32} {n : Nat} (hn : n < 2 ^ 31) (h0 : ¬ x < 0) (h : ¬ nI n ≤ x) : inR x n = true := by
  rw [Int32.le_iff_toInt_le, nI_toInt hn] at h
  rw [Int32.lt_iff_toInt_lt] at h0
  have : (0 : Int32).toInt = 0 := by decide
  simp [inR]; omega
theorem inR_of {x : Int32} {n : Nat} (h : inR x n = true) : ∃ j : Nat, j < n ∧ x = nI j := by
  simp [inR] at h
  have hx : ¬ x < 0 := by
    rw [Int32.lt_iff_toInt_lt]
    have : (0 : Int32).toInt = 0 := by decide
    omega
  obtain ⟨j, hj, rfl⟩ := nI_of hx
  rw [nI_toInt hj] at h
  exact ⟨j, by omega, rfl⟩
theorem inR_nI {j n : Nat} (hj : j < 2 ^ 31) : inR (nI j) n = decide (j < n) := by
  simp [inR, nI_toInt hj]
def sm (a b : Nat) : Nat := if a = 9000000000000000000 ∨ b = 9000000000000000000 then 9000000000000000000 else min 1000000000000000 (a + b)
theorem tb_0 {b i : Nat} (h : b / 2 ^ i &&& 1 = 0) : b.testBit i = false := by
  rw [Nat.and_one_is_mod] at h
  rw [Nat.testBit_eq_decide_div_mod_eq, h]; rfl
theorem tb_1 {b i : Nat} (h : ¬ b / 2 ^ i &&& 1 = 0) : b.testBit i = true := by
  rw [Nat.and_one_is_mod] at h
  rw [Nat.testBit_eq_decide_div_mod_eq]
  have : b / 2 ^ i % 2 = 1 := by omega
  rw [this]; rfl
theorem bx_lt (b i : Nat) (h : b < 2 ^ 31) : b / 2 ^ i &&& 1 < 2 ^ 31 := by
  rw [Nat.and_one_is_mod]; omega
def matchF (Hd : Nat → Nat) (w : Nat) : Nat → Nat
  | 0 => 0
  | n + 1 => matchF Hd w n + (if Hd n + 1 = w then 1 else 0)
theorem matchF_le (Hd : Nat → Nat) (w : Nat) : ∀ n, matchF Hd w n ≤ n
  | 0 => Nat.le_refl _
  | n + 1 => by have := matchF_le Hd w n; simp only [matchF]; split <;> omega
theorem arrV_congr (c : ClassId) (n : Nat) (f g : Nat → Value) (h : ∀ k, k < n → f k = g k) : arrV c n f = arrV c n g := by
  unfold arrV
  congr 1
  congr 1
  funext i
  exact h i.val i.isLt
theorem swap_P {D : va_G} {cl : List vw_C} {ws : va_W} {H : Heap} (hP : va_P D cl ws H) {q0 a : Nat} {c : ClassId} {x y : vp_A} (ha : ws[q0]? = some (a, .inl (c, x))) (h : vp_cell c x = vp_cell c y) : va_P D cl (ws.set q0 (a, .inl (c, y))) H := by
  intro k q hq
  by_cases e : k = q0
  · subst e
    have hk : k < ws.length := (List.getElem?_eq_some_iff.mp ha).1
    rw [List.getElem?_set_self hk] at hq
    cases hq
    have := hP k _ ha
    show H[a]? = some (vp_cell c y)
    rw [← h]; exact this
  · rw [List.getElem?_set_ne (Ne.symm e)] at hq
    exact hP k q hq
theorem go_swap {E : Ev} {k n pc : Nat} {lv : List (Nat × Value)} {st : List Value} {ws ws' : va_W} (q0 : Nat) {a : Nat} {c : ClassId} {x y : vp_A} (ha : ws[q0]? = some (a, .inl (c, x))) (h : vp_cell c x = vp_cell c y) (hw : ws.set q0 (a, .inl (c, y)) = ws') (kk : Go E k n pc lv st ws') : Go E k n pc lv st ws := by
  subst hw
  exact fun H locs ls hl hP hD hS => kk H locs ls hl (swap_P hP ha h) (hD.set ha) hS
theorem cell_N (c : ClassId) (n : Nat) (X Y : Nat → Nat) (h : ∀ k, k < n → X k = Y k) : vp_cell c (n, .inl (fun r => nI (X r))) = vp_cell c (n, .inl (fun r => nI (Y r))) := by
  simp only [vp_cell_i]
  exact arrV_congr c n _ _ (fun k hk => by rw [h k hk])
theorem cell_L (c : ClassId) (n : Nat) (X Y : Nat → Nat) (h : ∀ k, k < n → X k = Y k) : vp_cell c (n, .inr (.inl (fun r => lN (X r)))) = vp_cell c (n, .inr (.inl (fun r => lN (Y r)))) := by
  simp only [vp_cell_l]
  exact arrV_congr c n _ _ (fun k hk => by rw [h k hk])
theorem cell_R (c : ClassId) (n : Nat) (X Y : Nat → Nat) (h : ∀ k, k < n → X k = Y k) : vp_cell c (n, .inr (.inl (fun r => rv (X r)))) = vp_cell c (n, .inr (.inl (fun r => rv (Y r)))) := by
  simp only [vp_cell_l]
  exact arrV_congr c n _ _ (fun k hk => by rw [h k hk])
theorem cell_Z (c : ClassId) (n : Nat) (X Y : Nat → Bool) (h : ∀ k, k < n → X k = Y k) : vp_cell c (n, .inl (fun r => bI (X r))) = vp_cell c (n, .inl (fun r => bI (Y r))) := by
  simp only [vp_cell_i]
  exact arrV_congr c n _ _ (fun k hk => by rw [h k hk])
def fillF {α : Type} (X : Nat → α) (v : α) (i : Nat) : Nat → α := fun k => if k < i then v else X k
theorem fillF_0 {α : Type} (X : Nat → α) (v : α) : fillF X v 0 = X := by funext k; simp [fillF]
theorem fillF_s {α : Type} (X : Nat → α) (v : α) (i : Nat) : fillF X v (i + 1) = up (fillF X v i) i v := by
  funext k; simp only [fillF, up]
  by_cases h : k = i
  · subst h; simp
  · by_cases h2 : k < i
    · simp [h, h2, Nat.lt_succ_of_lt h2]
    · have : ¬ k < i + 1 := by omega
      simp [h, h2, this]
theorem fillF_in {α : Type} (X : Nat → α) (v : α) {i k : Nat} (h : k < i) : fillF X v i k = v := by simp [fillF, h]
theorem nI_oI {a u : Nat} (ha : a < 500) (hu : u < 1000) : nI a = oI u ↔ a + 1 = u := by
  rw [← oI_s]
  constructor
  · intro h
    cases u with
    | zero => exact absurd ((oI_eq (a := a + 1) (by omega)).mp (h.trans oI_0)) (by omega)
    | succ u => rw [oI_s, oI_s] at h; have := (nI_eq (by omega) (by omega)).mp h; omega
  · intro h; rw [h]
theorem oI_nI {a u : Nat} (ha : a < 2 ^ 30) (hu : u < 2 ^ 30) : oI u = nI a ↔ u = a + 1 := by
  cases u with
  | zero =>
    constructor
    · intro h
      have := nI_toInt (n := a) (by omega)
      rw [← h, oI_0] at this
      have h2 : (-1 : Int32).toInt = -1 := by decide
      omega
    · intro h; omega
  | succ u => rw [oI_s, nI_eq (by omega) (by omega)]; omega
def headF (c h : Nat) (Sg : Nat → Nat) : Nat := if h = 0 then 0 else c * 5 + Sg (h - 1) + 1
def chH (h a b : Nat) : Nat := h - 1 + (if b = 0 then 0 else 1) + (if a = 0 then 0 else 1)
def chS (Sg : Nat → Nat) (h a b : Nat) : Nat → Nat := if a = 0 then (if b = 0 then Sg else up Sg (h - 1) (b - 1)) else up (if b = 0 then Sg else up Sg (h - 1) (b - 1)) (h - 1 + (if b = 0 then 0 else 1)) (a - 1)
def okf (C : Nat → Nat) : Prop := ∀ k, C k ≤ 1000000000000000 ∨ C k = 9000000000000000000
theorem sm_ok (a b : Nat) : sm a b ≤ 1000000000000000 ∨ sm a b = 9000000000000000000 := by
  unfold sm; split
  · exact Or.inr rfl
  · left; exact Nat.min_le_left _ _
theorem up_ok {C : Nat → Nat} {i v : Nat} (h : okf C) (hv : v ≤ 1000000000000000 ∨ v = 9000000000000000000) : okf (up C i v) := by
  intro k; unfold up; split
  · exact hv
  · exact h k
def lowB (C : Nat → Nat) (i v : Nat) : Bool := decide (v < C i)
def lowC (C : Nat → Nat) (i v : Nat) : Nat → Nat := if v < C i then up C i v else C
theorem lowC_ok {C : Nat → Nat} {i v : Nat} (h : okf C) (hv : v ≤ 1000000000000000 ∨ v = 9000000000000000000) : okf (lowC C i v) := by
  unfold lowC; split
  · exact up_ok h hv
  · exact h
def prC (C : Nat → Nat) (base first next : Nat) : Nat → Nat → Nat
  | 0 => C
  | x + 1 => lowC (prC C base first next x) (base + x) (sm first (prC C base first next x (next * 5 + x)))
def prB (C : Nat → Nat) (base first next : Nat) : Nat → Bool
  | 0 => false
  | x + 1 => lowB (prC C base first next x) (base + x) (sm first (prC C base first next x (next * 5 + x))) || prB C base first next x
theorem prC_ok {C : Nat → Nat} (h : okf C) (base first next : Nat) : ∀ x, okf (prC C base first next x)
  | 0 => h
  | x + 1 => lowC_ok (prC_ok h base first next x) (sm_ok _ _)
def pbC (n : Nat) (C : Nat → Nat) (base inner b : Nat) : Nat → Nat → Nat
  | 0 => C
  | x + 1 => if sm 1 (pbC n C base inner b x (inner + x)) = 9000000000000000000 then pbC n C base inner b x else if b = 0 then lowC (pbC n C base inner b x) (base + x) (sm 1 (pbC n C base inner b x (inner + x))) else prC (pbC n C base inner b x) base (sm 1 (pbC n C base inner b x (inner + x))) (x * 5 + (b - 1)) n
def pbB (n : Nat) (C : Nat → Nat) (base inner b : Nat) : Nat → Bool
  | 0 => false
  | x + 1 => if sm 1 (pbC n C base inner b x (inner + x)) = 9000000000000000000 then pbB n C base inner b x else (if b = 0 then lowB (pbC n C base inner b x) (base + x) (sm 1 (pbC n C base inner b x (inner + x))) else prB (pbC n C base inner b x) base (sm 1 (pbC n C base inner b x (inner + x))) (x * 5 + (b - 1)) n) || pbB n C base inner b x
theorem pbC_ok {n : Nat} {C : Nat → Nat} (h : okf C) (base inner b : Nat) : ∀ x, okf (pbC n C base inner b x)
  | 0 => h
  | x + 1 => by
    simp only [pbC]; split
    · exact pbC_ok h base inner b x
    · split
      · exact lowC_ok (pbC_ok h base inner b x) (sm_ok _ _)
      · exact prC_ok (pbC_ok h base inner b x) _ _ _ _
def byC (n : Nat) (Hd To Tp Bl : Nat → Nat) (C : Nat → Nat) (r : Nat) : Nat → Nat := if Tp r = 0 then lowC C (Hd r * 5 + To r) 1 else pbC n C (Hd r * 5) ((To r * 5 + (Tp r - 1)) * 5) (Bl r) n
def byB (n : Nat) (Hd To Tp Bl : Nat → Nat) (C : Nat → Nat) (r : Nat) : Bool := if Tp r = 0 then lowB C (Hd r * 5 + To r) 1 else pbB n C (Hd r * 5) ((To r * 5 + (Tp r - 1)) * 5) (Bl r) n
theorem byC_ok {n : Nat} {Hd To Tp Bl C : Nat → Nat} (h : okf C) (r : Nat) : okf (byC n Hd To Tp Bl C r) := by
  unfold byC; split
  · exact lowC_ok h (Or.inl (by decide))
  · exact pbC_ok h _ _ _ _
def rdC (n : Nat) (Hd To Tp Bl : Nat → Nat) (C : Nat → Nat) : Nat → Nat → Nat
  | 0 => C
  | r + 1 => byC n Hd To Tp Bl (rdC n Hd To Tp Bl C r) r
def rdB (n : Nat) (Hd To Tp Bl : Nat → Nat) (C : Nat → Nat) : Nat → Bool
  | 0 => false
  | r + 1 => byB n Hd To Tp Bl (rdC n Hd To Tp Bl C r) r || rdB n Hd To Tp Bl C r
theorem rdC_ok {n : Nat} {Hd To Tp Bl C : Nat → Nat} (h : okf C) : ∀ r, okf (rdC n Hd To Tp Bl C r)
  | 0 => h
  | r + 1 => byC_ok (rdC_ok h r) r
def itC (n z : Nat) (Hd To Tp Bl : Nat → Nat) : Nat → Nat → Nat
  | 0 => fun _ => 9000000000000000000
  | t + 1 => rdC n Hd To Tp Bl (itC n z Hd To Tp Bl t) z
def itB (n z : Nat) (Hd To Tp Bl : Nat → Nat) : Nat → Bool
  | 0 => true
  | t + 1 => rdB n Hd To Tp Bl (itC n z Hd To Tp Bl t) z
theorem itC_ok {n z : Nat} {Hd To Tp Bl : Nat → Nat} : ∀ t, okf (itC n z Hd To Tp Bl t)
  | 0 => fun _ => Or.inr rfl
  | t + 1 => rdC_ok (itC_ok t) z
def ruOK (n z : Nat) (Hd To Tp Bl : Nat → Nat) : Prop := n ≤ 5 ∧ z ≤ 30 ∧ ∀ r, Hd r < 25 ∧ To r < 5 ∧ Tp r ≤ 5 ∧ Bl r ≤ 5
theorem lowC_same {C : Nat → Nat} {i v : Nat} (h : lowB C i v = false) : lowC C i v = C := by
  simp [lowB] at h; simp [lowC]; intro h2; omega
theorem prC_same {C : Nat → Nat} {base first next : Nat} : ∀ x, prB C base first next x = false → prC C base first next x = C
  | 0, _ => rfl
  | x + 1, h => by
    simp only [prB, Bool.or_eq_false_iff] at h
    simp only [prC]; rw [lowC_same h.1, prC_same x h.2]
theorem pbC_same {n : Nat} {C : Nat → Nat} {base inner b : Nat} : ∀ x, pbB n C base inner b x = false → pbC n C base inner b x = C
  | 0, _ => rfl
  | x + 1, h => by
    by_cases e : sm 1 (pbC n C base inner b x (inner + x)) = 9000000000000000000
    · simp only [pbB, if_pos e] at h
      simp only [pbC, if_pos e]; exact pbC_same x h
    · simp only [pbB, if_neg e, Bool.or_eq_false_iff] at h
      simp only [pbC, if_neg e]
      by_cases f : b = 0
      · rw [if_pos f] at h ⊢; rw [lowC_same h.1]; exact pbC_same x h.2
      · rw [if_neg f] at h ⊢; rw [prC_same n h.1]; exact pbC_same x h.2
theorem byC_same {n : Nat} {Hd To Tp Bl C : Nat → Nat} {r : Nat} (h : byB n Hd To Tp Bl C r = false) : byC n Hd To Tp Bl C r = C := by
  unfold byB at h; unfold byC
  split at h
  · next e => rw [if_pos e]; exact lowC_same h
  · next e => rw [if_neg e]; exact pbC_same _ h
theorem rdC_same {n : Nat} {Hd To Tp Bl C : Nat → Nat} : ∀ r, rdB n Hd To Tp Bl C r = false → rdC n Hd To Tp Bl C r = C
  | 0, _ => rfl
  | r + 1, h => by
    simp only [rdB, Bool.or_eq_false_iff] at h
    have e := rdC_same r h.2
    simp only [rdC]
    rw [byC_same h.1, e]
theorem itC_fix {n z : Nat} {Hd To Tp Bl : Nat → Nat} {t : Nat} (h : rdC n Hd To Tp Bl (itC n z Hd To Tp Bl t) z = itC n z Hd To Tp Bl t) : ∀ d, itC n z Hd To Tp Bl (t + d) = itC n z Hd To Tp Bl t
  | 0 => rfl
  | d + 1 => by
    show rdC n Hd To Tp Bl (itC n z Hd To Tp Bl (t + d)) z = _
    rw [itC_fix h d]; exact h
theorem itC_stop {n z : Nat} {Hd To Tp Bl : Nat → Nat} {t : Nat} (ht : t ≤ 126) (h : itB n z Hd To Tp Bl t = false) : itC n z Hd To Tp Bl 126 = itC n z Hd To Tp Bl t := by
  cases t with
  | zero => simp [itB] at h
  | succ t =>
    have e := rdC_same z (show rdB n Hd To Tp Bl (itC n z Hd To Tp Bl t) z = false from h)
    have f := itC_fix e
    have h1 : itC n z Hd To Tp Bl (t + 1) = itC n z Hd To Tp Bl t := e
    rw [h1]
    have := f (126 - t)
    rw [show t + (126 - t) = 126 from by omega] at this
    exact this
end
section
set_option maxHeartbeats 4000000 in
set_option maxRecDepth 100000 in
theorem c_X6_headOf (l : Launch) (D : va_G) (cy : Nat → ClassId) (p : Nat) (s : Nat)  : CoI l yX6_headOf wsX6_headOf 0 0 D cy [] [.int (nI p), .int (nI s)] [] (nI (p * 5 + s)) := by
  refine met_i (cc := cX6_headOf) (maxL := 2) (own := RX6) (lv := [(0, .int (nI p)), (1, .int (nI s))]) (by decide) rfl rfl rfl (Nat.le_of_ble_eq_true rfl) (fun E e1 e2 e3 C hret => ?_)
  subst e1; subst e2; subst e3
  refine g_iload_n C dX6_headOf_0 rfl 1 rfl 0 rfl ?_
  refine g_iconst (v := nI 5) C dX6_headOf_1 (by decide) 2 rfl ?_
  refine g_imul (z := nI (p * 5)) C dX6_headOf_2 3 rfl (pk_mul _ _) ?_
  refine g_iload_n C dX6_headOf_3 rfl 4 rfl 1 rfl ?_
  refine g_iadd (z := nI ((p * 5) + s)) C dX6_headOf_4 5 rfl (nI_add _ _) ?_
  have e_1 : (p * 5 + s) = ((p * 5) + s) := by simp [*]
  refine go_eq rfl (st' := [.int (nI (p * 5 + s))]) (ws' := []) (by first | rfl | (simp only [e_1, oI_s, oI_0]; first | done | rfl)) (by first | rfl | (simp only [e_1, oI_s, oI_0]; first | done | rfl)) ?_
  exact hret _ _ dX6_headOf_5
set_option maxHeartbeats 4000000 in
set_option maxRecDepth 100000 in
theorem c_X6_hasBit (l : Launch) (D : va_G) (cy : Nat → ClassId) (b : Nat) (i : Nat) (hb : b < 2 ^ 31) (hi : i < 32) : CoI l yX6_hasBit wsX6_hasBit 0 0 D cy [] [.int (nI b), .int (nI i)] [] (bI (b.testBit i)) := by
  refine met_z (cc := cX6_hasBit) (maxL := 2) (own := RX6) (lv := [(0, .int (nI b)), (1, .int (nI i))]) (by decide) rfl rfl rfl (Nat.le_of_ble_eq_true rfl) (fun E e1 e2 e3 C hret => ?_)
  subst e1; subst e2; subst e3
  refine g_iload_n C dX6_hasBit_0 rfl 1 rfl 0 rfl ?_
  refine g_iload_n C dX6_hasBit_1 rfl 2 rfl 1 rfl ?_
  refine g_ishr (z := nI (b / 2 ^ i)) C dX6_hasBit_2 3 rfl (z_shr (by omega) (by omega)) ?_
  refine g_iconst (v := nI 1) C dX6_hasBit_3 (by decide) 4 rfl ?_
  refine g_iand (z := nI ((b / 2 ^ i) &&& 1)) C dX6_hasBit_4 5 rfl (z_and _ _) ?_
  refine g_if_eq (X := (b / 2 ^ i) &&& 1 = 0) C dX6_hasBit_5 12 (by decide) 8 rfl (nI_eq0 (by exact bx_lt _ _ hb)) ?_ ?_
  · intro h5
    refine g_iconst (v := nI 0) C dX6_hasBit_12 (by decide) 13 rfl ?_
    have e_1 : (b.testBit i) = false := by first | exact tb_0 (by assumption) | exact tb_1 (by assumption)
    refine go_eq rfl (st' := [.int (bI (b.testBit i))]) (ws' := []) (by first | rfl | (simp only [e_1, oI_s, oI_0]; first | done | rfl)) (by first | rfl | (simp only [e_1, oI_s, oI_0]; first | done | rfl)) ?_
    exact hret _ _ dX6_hasBit_13
  · intro h5
    refine g_iconst (v := nI 1) C dX6_hasBit_8 (by decide) 9 rfl ?_
    refine g_goto C dX6_hasBit_9 13 (by decide) ?_
    have e_2 : (b.testBit i) = true := by first | exact tb_0 (by assumption) | exact tb_1 (by assumption)
    refine go_eq rfl (st' := [.int (bI (b.testBit i))]) (ws' := []) (by first | rfl | (simp only [e_2, oI_s, oI_0]; first | done | rfl)) (by first | rfl | (simp only [e_2, oI_s, oI_0]; first | done | rfl)) ?_
    exact hret _ _ dX6_hasBit_13
set_option maxHeartbeats 4000000 in
set_option maxRecDepth 100000 in
theorem c_X6_told (l : Launch) (D : va_G) (cy : Nat → ClassId) (a : Nat) (ha : a ≤ 9000000000000000000) : CoL l yX6_told wsX6_told 0 0 D cy [] [.long (lN a)] [] (rv a) := by
  refine met_l (cc := cX6_told) (maxL := 2) (own := RX6) (lv := [(0, .long (lN a))]) (by decide) rfl rfl rfl (Nat.le_of_ble_eq_true rfl) (fun E e1 e2 e3 C hret => ?_)
  subst e1; subst e2; subst e3
  refine g_lload_n C dX6_told_0 rfl 1 rfl 0 rfl ?_
  refine g_ldc2 (v' := (lN 9000000000000000000)) C (C.1.2.2.2.2 (.constantLong RX6 185 (9000000000000000000)) (List.mem_of_getElem? (i := 1) rfl)) (by decide) dX6_told_1 4 rfl ?_
  refine g_lcmp_ne (X := ¬ a = 9000000000000000000) C dX6_told_4 rfl dX6_told_5 14 (by decide) 8 rfl (not_congr (pk_lEQ (by omega) (by omega))) ?_ ?_
  · intro h4
    refine g_lload_n C dX6_told_14 rfl 15 rfl 0 rfl ?_
    refine go_eq rfl (st' := [.long (rv a)]) (ws' := []) (by first | rfl | (rw [rv_of (by assumption)])) (by first | rfl | (rw [rv_of (by assumption)])) ?_
    exact hret _ _ dX6_told_15
  · intro h4
    have h4 : a = 9000000000000000000 := Decidable.not_not.mp h4
    refine g_ldc2 (v' := (rv 9000000000000000000)) C (C.1.2.2.2.2 (.constantLong RX6 187 (-1)) (List.mem_of_getElem? (i := 2) rfl)) (by decide) dX6_told_8 11 rfl ?_
    refine g_goto C dX6_told_11 15 (by decide) ?_
    have e_1 : a = 9000000000000000000 := by assumption
    refine go_eq rfl (st' := [.long (rv a)]) (ws' := []) (by first | rfl | (simp only [e_1, oI_s, oI_0]; first | done | rfl) | (rw [rv_of (by assumption)])) (by first | rfl | (simp only [e_1, oI_s, oI_0]; first | done | rfl) | (rw [rv_of (by assumption)])) ?_
    exact hret _ _ dX6_told_15
set_option maxHeartbeats 4000000 in
set_option maxRecDepth 100000 in
theorem c_X6_placeOf (l : Launch) (D : va_G) (cy : Nat → ClassId) (w : Nat) (j : Nat) (hw : w < 2) : CoI l yX6_placeOf wsX6_placeOf 0 0 D cy [] [.int (nI w), .int (nI j)] [] (nI (if w = 0 then j else 5 + j)) := by
  refine met_i (cc := cX6_placeOf) (maxL := 2) (own := RX6) (lv := [(0, .int (nI w)), (1, .int (nI j))]) (by decide) rfl rfl rfl (Nat.le_of_ble_eq_true rfl) (fun E e1 e2 e3 C hret => ?_)
  subst e1; subst e2; subst e3
  refine g_iload_n C dX6_placeOf_0 rfl 1 rfl 0 rfl ?_
  refine g_if_ne (X := ¬ w = 0) C dX6_placeOf_1 8 (by decide) 4 rfl (not_congr (nI_eq0 (by omega))) ?_ ?_
  · intro h1
    refine g_iconst (v := nI 5) C dX6_placeOf_8 (by decide) 9 rfl ?_
    refine g_iload_n C dX6_placeOf_9 rfl 10 rfl 1 rfl ?_
    refine g_iadd (z := nI (5 + j)) C dX6_placeOf_10 11 rfl (nI_add _ _) ?_
    have e_1 : (if w = 0 then j else 5 + j) = (5 + j) := by first | rw [if_pos (by assumption)] | rw [if_neg (by assumption)]
    refine go_eq rfl (st' := [.int (nI (if w = 0 then j else 5 + j))]) (ws' := []) (by first | rfl | (simp only [e_1, oI_s, oI_0]; first | done | rfl)) (by first | rfl | (simp only [e_1, oI_s, oI_0]; first | done | rfl)) ?_
    exact hret _ _ dX6_placeOf_11
  · intro h1
    have h1 : w = 0 := Decidable.not_not.mp h1
    refine g_iload_n C dX6_placeOf_4 rfl 5 rfl 1 rfl ?_
    refine g_goto C dX6_placeOf_5 11 (by decide) ?_
    have e_2 : (if w = 0 then j else 5 + j) = j := by first | rw [if_pos (by assumption)] | rw [if_neg (by assumption)]
    refine go_eq rfl (st' := [.int (nI (if w = 0 then j else 5 + j))]) (ws' := []) (by first | rfl | (simp only [e_2, oI_s, oI_0]; first | done | rfl)) (by first | rfl | (simp only [e_2, oI_s, oI_0]; first | done | rfl)) ?_
    exact hret _ _ dX6_placeOf_11
set_option maxHeartbeats 4000000 in
set_option maxRecDepth 100000 in
theorem c_X6_sum (l : Launch) (D : va_G) (cy : Nat → ClassId) (a : Nat) (b : Nat) (ha : a ≤ 1000000000000000 ∨ a = 9000000000000000000) (hb : b ≤ 1000000000000000 ∨ b = 9000000000000000000) : CoL l yX6_sum wsX6_sum 1 23 D cy [] [.long (lN a), .long (lN b)] [] (lN (sm a b)) := by
  refine met_l (cc := cX6_sum) (maxL := 4) (own := RX6) (lv := [(0, .long (lN a)), (2, .long (lN b))]) (by decide) rfl rfl rfl (Nat.le_of_ble_eq_true rfl) (fun E e1 e2 e3 C hret => ?_)
  subst e1; subst e2; subst e3
  refine g_lload_n C dX6_sum_0 rfl 1 rfl 0 rfl ?_
  refine g_ldc2 (v' := (lN 9000000000000000000)) C (C.1.2.2.2.2 (.constantLong RX6 185 (9000000000000000000)) (List.mem_of_getElem? (i := 1) rfl)) (by decide) dX6_sum_1 4 rfl ?_
  refine g_lcmp_eq (X := a = 9000000000000000000) C dX6_sum_4 rfl dX6_sum_5 16 (by decide) 8 rfl (pk_lEQ (by omega) (by omega)) ?_ ?_
  · intro h4
    refine g_ldc2 (v' := (lN 9000000000000000000)) C (C.1.2.2.2.2 (.constantLong RX6 185 (9000000000000000000)) (List.mem_of_getElem? (i := 1) rfl)) (by decide) dX6_sum_16 19 rfl ?_
    have e_1 : (sm a b) = 9000000000000000000 := by simp only [sm]; first | rw [if_pos (Or.inl (by assumption))] | rw [if_pos (Or.inr (by assumption))] | rw [if_neg (by omega)]
    refine go_eq rfl (st' := [.long (lN (sm a b))]) (ws' := []) (by first | rfl | (simp only [e_1, oI_s, oI_0]; first | done | rfl)) (by first | rfl | (simp only [e_1, oI_s, oI_0]; first | done | rfl)) ?_
    exact hret _ _ dX6_sum_19
  · intro h4
    refine g_lload_n C dX6_sum_8 rfl 9 rfl 1 rfl ?_
    refine g_ldc2 (v' := (lN 9000000000000000000)) C (C.1.2.2.2.2 (.constantLong RX6 185 (9000000000000000000)) (List.mem_of_getElem? (i := 1) rfl)) (by decide) dX6_sum_9 12 rfl ?_
    refine g_lcmp_ne (X := ¬ b = 9000000000000000000) C dX6_sum_12 rfl dX6_sum_13 20 (by decide) 16 rfl (not_congr (pk_lEQ (by omega) (by omega))) ?_ ?_
    · intro h12
      refine g_ldc2 (v' := (lN 1000000000000000)) C (C.1.2.2.2.2 (.constantLong RX6 147 (1000000000000000)) (List.mem_of_getElem? (i := 2) rfl)) (by decide) dX6_sum_20 23 rfl ?_
      refine g_lload_n C dX6_sum_23 rfl 24 rfl 0 rfl ?_
      refine g_lload_n C dX6_sum_24 rfl 25 rfl 1 rfl ?_
      refine g_ladd (z := lN (a + b)) C dX6_sum_25 26 rfl (lN_add _ _) ?_
      refine g_minL C (List.mem_of_getElem? (i := 3) rfl) (List.mem_of_getElem? (i := 4) rfl) (List.mem_of_getElem? (i := 5) rfl) (List.mem_of_getElem? (i := 6) rfl) (by decide) (Nat.le_of_ble_eq_true rfl) ⟨Nat.zero_le _, Nat.zero_le _⟩ (by omega) (by omega) dX6_sum_26 29 rfl ?_
      have e_2 : (sm a b) = (min 1000000000000000 (a + b)) := by simp only [sm]; first | rw [if_pos (Or.inl (by assumption))] | rw [if_pos (Or.inr (by assumption))] | rw [if_neg (by omega)]
      refine go_eq rfl (st' := [.long (lN (sm a b))]) (ws' := []) (by first | rfl | (simp only [e_2, oI_s, oI_0]; first | done | rfl)) (by first | rfl | (simp only [e_2, oI_s, oI_0]; first | done | rfl)) ?_
      exact hret _ _ dX6_sum_29
    · intro h12
      have h12 : b = 9000000000000000000 := Decidable.not_not.mp h12
      refine g_ldc2 (v' := (lN 9000000000000000000)) C (C.1.2.2.2.2 (.constantLong RX6 185 (9000000000000000000)) (List.mem_of_getElem? (i := 1) rfl)) (by decide) dX6_sum_16 19 rfl ?_
      have e_3 : (sm a b) = 9000000000000000000 := by simp only [sm]; first | rw [if_pos (Or.inl (by assumption))] | rw [if_pos (Or.inr (by assumption))] | rw [if_neg (by omega)]
      refine go_eq rfl (st' := [.long (lN (sm a b))]) (ws' := []) (by first | rfl | (simp only [e_3, oI_s, oI_0]; first | done | rfl)) (by first | rfl | (simp only [e_3, oI_s, oI_0]; first | done | rfl)) ?_
      exact hret _ _ dX6_sum_19
set_option maxHeartbeats 4000000 in
set_option maxRecDepth 100000 in
theorem c_X4_isControl (l : Launch) (D : va_G) (cy : Nat → ClassId) (h0 : Nat) (n : Nat) (m : Nat) (z : Nat) (st : Nat) (qh : Nat) (qt : Nat) (qp : Nat) (qb : Nat) (p : Int32) (hn : n < 100) : CoI l yX4_isControl wsX4_isControl 0 0 D cy [ob h0 4 [.int (nI n), .int (nI m), .int (nI z), .int (nI st), .ref qh, .ref qt, .ref qp, .ref qb]] [.ref h0, .int p] [ob h0 4 [.int (nI n), .int (nI m), .int (nI z), .int (nI st), .ref qh, .ref qt, .ref qp, .ref qb]] (bI (inR p n)) := by
  refine met_z (cc := cX4_isControl) (maxL := 2) (own := RX4) (lv := [(0, .ref h0), (1, .int p)]) (by decide) rfl rfl rfl (Nat.le_of_ble_eq_true rfl) (fun E e1 e2 e3 C hret => ?_)
  subst e1; subst e2; subst e3
  have iX4 : ∀ w ∈ wsX40, w ∈ wsX4_isControl := fun _ h => List.mem_cons_of_mem _ (List.mem_append_right _ h)
  refine g_iload_n C dX4_isControl_0 rfl 1 rfl 1 rfl ?_
  refine g_if_lt (X := p < 0) C dX4_isControl_1 16 (by decide) 4 rfl (Iff.rfl) ?_ ?_
  · intro h1
    refine g_iconst (v := nI 0) C dX4_isControl_16 (by decide) 17 rfl ?_
    have e_1 : (inR p n) = false := by first | exact inR_lt (by assumption) | exact inR_ge (by omega) (by assumption) | exact inR_t (by omega) (by assumption) (by assumption)
    refine go_eq rfl (st' := [.int (bI (inR p n))]) (ws' := [ob h0 4 [.int (nI n), .int (nI m), .int (nI z), .int (nI st), .ref qh, .ref qt, .ref qp, .ref qb]]) (by first | rfl | (simp only [e_1, oI_s, oI_0]; first | done | rfl)) (by first | rfl | (simp only [e_1, oI_s, oI_0]; first | done | rfl)) ?_
    exact hret _ _ dX4_isControl_17
  · intro h1
    refine g_iload_n C dX4_isControl_4 rfl 5 rfl 1 rfl ?_
    refine g_aload_n C dX4_isControl_5 rfl 6 rfl 0 rfl ?_
    refine g_get C iX4 0 rfl rfl 0 (by decide) (C.1.2.2.2.2 (.fieldLink RX4 9 "StackRuns$Rules" "controls" "I") (List.mem_of_getElem? (i := 1) rfl)) rfl dX4_isControl_6 9 rfl ?_
    refine g_icmp_ge (X := (nI n) ≤ p) C dX4_isControl_9 16 (by decide) 12 rfl (Iff.rfl) ?_ ?_
    · intro h9
      refine g_iconst (v := nI 0) C dX4_isControl_16 (by decide) 17 rfl ?_
      have e_2 : (inR p n) = false := by first | exact inR_lt (by assumption) | exact inR_ge (by omega) (by assumption) | exact inR_t (by omega) (by assumption) (by assumption)
      refine go_eq rfl (st' := [.int (bI (inR p n))]) (ws' := [ob h0 4 [.int (nI n), .int (nI m), .int (nI z), .int (nI st), .ref qh, .ref qt, .ref qp, .ref qb]]) (by first | rfl | (simp only [e_2, oI_s, oI_0]; first | done | rfl)) (by first | rfl | (simp only [e_2, oI_s, oI_0]; first | done | rfl)) ?_
      exact hret _ _ dX4_isControl_17
    · intro h9
      refine g_iconst (v := nI 1) C dX4_isControl_12 (by decide) 13 rfl ?_
      refine g_goto C dX4_isControl_13 17 (by decide) ?_
      have e_3 : (inR p n) = true := by first | exact inR_lt (by assumption) | exact inR_ge (by omega) (by assumption) | exact inR_t (by omega) (by assumption) (by assumption)
      refine go_eq rfl (st' := [.int (bI (inR p n))]) (ws' := [ob h0 4 [.int (nI n), .int (nI m), .int (nI z), .int (nI st), .ref qh, .ref qt, .ref qp, .ref qb]]) (by first | rfl | (simp only [e_3, oI_s, oI_0]; first | done | rfl)) (by first | rfl | (simp only [e_3, oI_s, oI_0]; first | done | rfl)) ?_
      exact hret _ _ dX4_isControl_17
set_option maxHeartbeats 4000000 in
set_option maxRecDepth 100000 in
theorem c_X4_isSign (l : Launch) (D : va_G) (cy : Nat → ClassId) (h0 : Nat) (n : Nat) (m : Nat) (z : Nat) (st : Nat) (qh : Nat) (qt : Nat) (qp : Nat) (qb : Nat) (p : Int32) (hm : m < 100) : CoI l yX4_isSign wsX4_isSign 0 0 D cy [ob h0 4 [.int (nI n), .int (nI m), .int (nI z), .int (nI st), .ref qh, .ref qt, .ref qp, .ref qb]] [.ref h0, .int p] [ob h0 4 [.int (nI n), .int (nI m), .int (nI z), .int (nI st), .ref qh, .ref qt, .ref qp, .ref qb]] (bI (inR p m)) := by
  refine met_z (cc := cX4_isSign) (maxL := 2) (own := RX4) (lv := [(0, .ref h0), (1, .int p)]) (by decide) rfl rfl rfl (Nat.le_of_ble_eq_true rfl) (fun E e1 e2 e3 C hret => ?_)
  subst e1; subst e2; subst e3
  have iX4 : ∀ w ∈ wsX40, w ∈ wsX4_isSign := fun _ h => List.mem_cons_of_mem _ (List.mem_append_right _ h)
  refine g_iload_n C dX4_isSign_0 rfl 1 rfl 1 rfl ?_
  refine g_if_lt (X := p < 0) C dX4_isSign_1 16 (by decide) 4 rfl (Iff.rfl) ?_ ?_
  · intro h1
    refine g_iconst (v := nI 0) C dX4_isSign_16 (by decide) 17 rfl ?_
    have e_1 : (inR p m) = false := by first | exact inR_lt (by assumption) | exact inR_ge (by omega) (by assumption) | exact inR_t (by omega) (by assumption) (by assumption)
    refine go_eq rfl (st' := [.int (bI (inR p m))]) (ws' := [ob h0 4 [.int (nI n), .int (nI m), .int (nI z), .int (nI st), .ref qh, .ref qt, .ref qp, .ref qb]]) (by first | rfl | (simp only [e_1, oI_s, oI_0]; first | done | rfl)) (by first | rfl | (simp only [e_1, oI_s, oI_0]; first | done | rfl)) ?_
    exact hret _ _ dX4_isSign_17
  · intro h1
    refine g_iload_n C dX4_isSign_4 rfl 5 rfl 1 rfl ?_
    refine g_aload_n C dX4_isSign_5 rfl 6 rfl 0 rfl ?_
    refine g_get C iX4 0 rfl rfl 1 (by decide) (C.1.2.2.2.2 (.fieldLink RX4 15 "StackRuns$Rules" "alphabet" "I") (List.mem_of_getElem? (i := 1) rfl)) rfl dX4_isSign_6 9 rfl ?_
    refine g_icmp_ge (X := (nI m) ≤ p) C dX4_isSign_9 16 (by decide) 12 rfl (Iff.rfl) ?_ ?_
    · intro h9
      refine g_iconst (v := nI 0) C dX4_isSign_16 (by decide) 17 rfl ?_
      have e_2 : (inR p m) = false := by first | exact inR_lt (by assumption) | exact inR_ge (by omega) (by assumption) | exact inR_t (by omega) (by assumption) (by assumption)
      refine go_eq rfl (st' := [.int (bI (inR p m))]) (ws' := [ob h0 4 [.int (nI n), .int (nI m), .int (nI z), .int (nI st), .ref qh, .ref qt, .ref qp, .ref qb]]) (by first | rfl | (simp only [e_2, oI_s, oI_0]; first | done | rfl)) (by first | rfl | (simp only [e_2, oI_s, oI_0]; first | done | rfl)) ?_
      exact hret _ _ dX4_isSign_17
    · intro h9
      refine g_iconst (v := nI 1) C dX4_isSign_12 (by decide) 13 rfl ?_
      refine g_goto C dX4_isSign_13 17 (by decide) ?_
      have e_3 : (inR p m) = true := by first | exact inR_lt (by assumption) | exact inR_ge (by omega) (by assumption) | exact inR_t (by omega) (by assumption) (by assumption)
      refine go_eq rfl (st' := [.int (bI (inR p m))]) (ws' := [ob h0 4 [.int (nI n), .int (nI m), .int (nI z), .int (nI st), .ref qh, .ref qt, .ref qp, .ref qb]]) (by first | rfl | (simp only [e_3, oI_s, oI_0]; first | done | rfl)) (by first | rfl | (simp only [e_3, oI_s, oI_0]; first | done | rfl)) ?_
      exact hret _ _ dX4_isSign_17
set_option maxHeartbeats 4000000 in
set_option maxRecDepth 100000 in
theorem c_X4_restart (l : Launch) (D : va_G) (cy : Nat → ClassId) (h0 : Nat) (n : Nat) (m : Nat) (z : Nat) (st : Nat) (qh : Nat) (qt : Nat) (qp : Nat) (qb : Nat) (a : Nat) (b : Nat)  : CoV l yX4_restart wsX4_restart 0 0 D cy [ob h0 4 [.int (nI n), .int (nI m), .int (nI z), .int (nI st), .ref qh, .ref qt, .ref qp, .ref qb]] [.ref h0, .int (nI a), .int (nI b)] [ob h0 4 [.int (nI a), .int (nI b), .int (nI 0), .int (nI (st + 1)), .ref qh, .ref qt, .ref qp, .ref qb]] := by
  refine met_v (cc := cX4_restart) (maxL := 3) (own := RX4) (lv := [(0, .ref h0), (1, .int (nI a)), (2, .int (nI b))]) (by decide) rfl rfl rfl (Nat.le_of_ble_eq_true rfl) (fun E e1 e2 e3 C hret => ?_)
  subst e1; subst e2; subst e3
  have iX4 : ∀ w ∈ wsX40, w ∈ wsX4_restart := fun _ h => List.mem_cons_of_mem _ (List.mem_append_right _ h)
  refine g_aload_n C dX4_restart_0 rfl 1 rfl 0 rfl ?_
  refine g_iload_n C dX4_restart_1 rfl 2 rfl 1 rfl ?_
  refine g_put (ws' := [ob h0 4 [.int (nI a), .int (nI m), .int (nI z), .int (nI st), .ref qh, .ref qt, .ref qp, .ref qb]]) (ty := .int) C iX4 tyX4_ok nmX4 0 rfl rfl 0 (by decide) (C.1.2.2.2.2 (.fieldLink RX4 9 "StackRuns$Rules" "controls" "I") (List.mem_of_getElem? (i := 1) rfl)) rfl (by decide +kernel) rfl rfl (Nat.le_of_ble_eq_true rfl) dX4_restart_2 5 rfl rfl ?_
  refine g_aload_n C dX4_restart_5 rfl 6 rfl 0 rfl ?_
  refine g_iload_n C dX4_restart_6 rfl 7 rfl 2 rfl ?_
  refine g_put (ws' := [ob h0 4 [.int (nI a), .int (nI b), .int (nI z), .int (nI st), .ref qh, .ref qt, .ref qp, .ref qb]]) (ty := .int) C iX4 tyX4_ok nmX4 0 rfl rfl 1 (by decide) (C.1.2.2.2.2 (.fieldLink RX4 15 "StackRuns$Rules" "alphabet" "I") (List.mem_of_getElem? (i := 2) rfl)) rfl (by decide +kernel) rfl rfl (Nat.le_of_ble_eq_true rfl) dX4_restart_7 10 rfl rfl ?_
  refine g_aload_n C dX4_restart_10 rfl 11 rfl 0 rfl ?_
  refine g_iconst (v := nI 0) C dX4_restart_11 (by decide) 12 rfl ?_
  refine g_put (ws' := [ob h0 4 [.int (nI a), .int (nI b), .int (nI 0), .int (nI st), .ref qh, .ref qt, .ref qp, .ref qb]]) (ty := .int) C iX4 tyX4_ok nmX4 0 rfl rfl 2 (by decide) (C.1.2.2.2.2 (.fieldLink RX4 18 "StackRuns$Rules" "size" "I") (List.mem_of_getElem? (i := 3) rfl)) rfl (by decide +kernel) rfl rfl (Nat.le_of_ble_eq_true rfl) dX4_restart_12 15 rfl rfl ?_
  refine g_aload_n C dX4_restart_15 rfl 16 rfl 0 rfl ?_
  refine g_dup C dX4_restart_16 rfl 17 rfl ?_
  refine g_get C iX4 0 rfl rfl 3 (by decide) (C.1.2.2.2.2 (.fieldLink RX4 21 "StackRuns$Rules" "stamp" "I") (List.mem_of_getElem? (i := 4) rfl)) rfl dX4_restart_17 20 rfl ?_
  refine g_iconst (v := nI 1) C dX4_restart_20 (by decide) 21 rfl ?_
  refine g_iadd (z := nI (st + 1)) C dX4_restart_21 22 rfl (nI_add _ _) ?_
  refine g_put (ws' := [ob h0 4 [.int (nI a), .int (nI b), .int (nI 0), .int (nI (st + 1)), .ref qh, .ref qt, .ref qp, .ref qb]]) (ty := .int) C iX4 tyX4_ok nmX4 0 rfl rfl 3 (by decide) (C.1.2.2.2.2 (.fieldLink RX4 21 "StackRuns$Rules" "stamp" "I") (List.mem_of_getElem? (i := 4) rfl)) rfl (by decide +kernel) rfl rfl (Nat.le_of_ble_eq_true rfl) dX4_restart_22 25 rfl rfl ?_
  exact hret _ _ dX4_restart_25
set_option maxHeartbeats 4000000 in
set_option maxRecDepth 100000 in
theorem c_X4_add (l : Launch) (D : va_G) (cy : Nat → ClassId) (h0 : Nat) (n : Nat) (m : Nat) (z : Nat) (st : Nat) (qh : Nat) (qt : Nat) (qp : Nat) (qb : Nat) (Hd : Nat → Nat) (To : Nat → Nat) (Tp : Nat → Nat) (Bl : Nat → Nat) (f : Nat) (q : Nat) (a : Nat) (b : Nat) (hz : z < 30) : CoI l yX4_add wsX4_add 0 0 D cy [ob h0 4 [.int (nI n), .int (nI m), .int (nI z), .int (nI st), .ref qh, .ref qt, .ref qp, .ref qb], aN cy qh 30 Hd, aN cy qt 30 To, aO cy qp 30 Tp, aO cy qb 30 Bl] [.ref h0, .int (nI f), .int (nI q), .int (oI a), .int (oI b)] [ob h0 4 [.int (nI n), .int (nI m), .int (nI (z + 1)), .int (nI (st + 1)), .ref qh, .ref qt, .ref qp, .ref qb], aN cy qh 30 (up Hd z f), aN cy qt 30 (up To z q), aO cy qp 30 (up Tp z a), aO cy qb 30 (up Bl z b)] (nI z) := by
  refine met_i (cc := cX4_add) (maxL := 5) (own := RX4) (lv := [(0, .ref h0), (1, .int (nI f)), (2, .int (nI q)), (3, .int (oI a)), (4, .int (oI b))]) (by decide) rfl rfl rfl (Nat.le_of_ble_eq_true rfl) (fun E e1 e2 e3 C hret => ?_)
  subst e1; subst e2; subst e3
  have iX4 : ∀ w ∈ wsX40, w ∈ wsX4_add := fun _ h => List.mem_cons_of_mem _ (List.mem_append_right _ h)
  refine g_aload_n C dX4_add_0 rfl 1 rfl 0 rfl ?_
  refine g_get C iX4 0 rfl rfl 4 (by decide) (C.1.2.2.2.2 (.fieldLink RX4 24 "StackRuns$Rules" "head" "[I") (List.mem_of_getElem? (i := 1) rfl)) rfl dX4_add_1 4 rfl ?_
  refine g_aload_n C dX4_add_4 rfl 5 rfl 0 rfl ?_
  refine g_get C iX4 0 rfl rfl 2 (by decide) (C.1.2.2.2.2 (.fieldLink RX4 18 "StackRuns$Rules" "size" "I") (List.mem_of_getElem? (i := 2) rfl)) rfl dX4_add_5 8 rfl ?_
  refine g_iload_n C dX4_add_8 rfl 9 rfl 1 rfl ?_
  refine g_iast (ws' := [ob h0 4 [.int (nI n), .int (nI m), .int (nI z), .int (nI st), .ref qh, .ref qt, .ref qp, .ref qb], aN (eY E) qh 30 (up Hd z f), aN (eY E) qt 30 To, aO (eY E) qp 30 Tp, aO (eY E) qb 30 Bl]) (i := z) C 1 rfl (by omega) (by decide) dX4_add_9 10 rfl (upd_N _ _ _) rfl ?_
  refine g_aload_n C dX4_add_10 rfl 11 rfl 0 rfl ?_
  refine g_get C iX4 0 rfl rfl 5 (by decide) (C.1.2.2.2.2 (.fieldLink RX4 28 "StackRuns$Rules" "to" "[I") (List.mem_of_getElem? (i := 3) rfl)) rfl dX4_add_11 14 rfl ?_
  refine g_aload_n C dX4_add_14 rfl 15 rfl 0 rfl ?_
  refine g_get C iX4 0 rfl rfl 2 (by decide) (C.1.2.2.2.2 (.fieldLink RX4 18 "StackRuns$Rules" "size" "I") (List.mem_of_getElem? (i := 2) rfl)) rfl dX4_add_15 18 rfl ?_
  refine g_iload_n C dX4_add_18 rfl 19 rfl 2 rfl ?_
  refine g_iast (ws' := [ob h0 4 [.int (nI n), .int (nI m), .int (nI z), .int (nI st), .ref qh, .ref qt, .ref qp, .ref qb], aN (eY E) qh 30 (up Hd z f), aN (eY E) qt 30 (up To z q), aO (eY E) qp 30 Tp, aO (eY E) qb 30 Bl]) (i := z) C 2 rfl (by omega) (by decide) dX4_add_19 20 rfl (upd_N _ _ _) rfl ?_
  refine g_aload_n C dX4_add_20 rfl 21 rfl 0 rfl ?_
  refine g_get C iX4 0 rfl rfl 6 (by decide) (C.1.2.2.2.2 (.fieldLink RX4 31 "StackRuns$Rules" "top" "[I") (List.mem_of_getElem? (i := 4) rfl)) rfl dX4_add_21 24 rfl ?_
  refine g_aload_n C dX4_add_24 rfl 25 rfl 0 rfl ?_
  refine g_get C iX4 0 rfl rfl 2 (by decide) (C.1.2.2.2.2 (.fieldLink RX4 18 "StackRuns$Rules" "size" "I") (List.mem_of_getElem? (i := 2) rfl)) rfl dX4_add_25 28 rfl ?_
  refine g_iload_n C dX4_add_28 rfl 29 rfl 3 rfl ?_
  refine g_iast (ws' := [ob h0 4 [.int (nI n), .int (nI m), .int (nI z), .int (nI st), .ref qh, .ref qt, .ref qp, .ref qb], aN (eY E) qh 30 (up Hd z f), aN (eY E) qt 30 (up To z q), aO (eY E) qp 30 (up Tp z a), aO (eY E) qb 30 Bl]) (i := z) C 3 rfl (by omega) (by decide) dX4_add_29 30 rfl (upd_O _ _ _) rfl ?_
  refine g_aload_n C dX4_add_30 rfl 31 rfl 0 rfl ?_
  refine g_get C iX4 0 rfl rfl 7 (by decide) (C.1.2.2.2.2 (.fieldLink RX4 34 "StackRuns$Rules" "below" "[I") (List.mem_of_getElem? (i := 5) rfl)) rfl dX4_add_31 34 rfl ?_
  refine g_aload_n C dX4_add_34 rfl 35 rfl 0 rfl ?_
  refine g_get C iX4 0 rfl rfl 2 (by decide) (C.1.2.2.2.2 (.fieldLink RX4 18 "StackRuns$Rules" "size" "I") (List.mem_of_getElem? (i := 2) rfl)) rfl dX4_add_35 38 rfl ?_
  refine g_iload C dX4_add_38 40 rfl 4 rfl ?_
  refine g_iast (ws' := [ob h0 4 [.int (nI n), .int (nI m), .int (nI z), .int (nI st), .ref qh, .ref qt, .ref qp, .ref qb], aN (eY E) qh 30 (up Hd z f), aN (eY E) qt 30 (up To z q), aO (eY E) qp 30 (up Tp z a), aO (eY E) qb 30 (up Bl z b)]) (i := z) C 4 rfl (by omega) (by decide) dX4_add_40 41 rfl (upd_O _ _ _) rfl ?_
  refine g_aload_n C dX4_add_41 rfl 42 rfl 0 rfl ?_
  refine g_dup C dX4_add_42 rfl 43 rfl ?_
  refine g_get C iX4 0 rfl rfl 2 (by decide) (C.1.2.2.2.2 (.fieldLink RX4 18 "StackRuns$Rules" "size" "I") (List.mem_of_getElem? (i := 2) rfl)) rfl dX4_add_43 46 rfl ?_
  refine g_iconst (v := nI 1) C dX4_add_46 (by decide) 47 rfl ?_
  refine g_iadd (z := nI (z + 1)) C dX4_add_47 48 rfl (nI_add _ _) ?_
  refine g_put (ws' := [ob h0 4 [.int (nI n), .int (nI m), .int (nI (z + 1)), .int (nI st), .ref qh, .ref qt, .ref qp, .ref qb], aN (eY E) qh 30 (up Hd z f), aN (eY E) qt 30 (up To z q), aO (eY E) qp 30 (up Tp z a), aO (eY E) qb 30 (up Bl z b)]) (ty := .int) C iX4 tyX4_ok nmX4 0 rfl rfl 2 (by decide) (C.1.2.2.2.2 (.fieldLink RX4 18 "StackRuns$Rules" "size" "I") (List.mem_of_getElem? (i := 2) rfl)) rfl (by decide +kernel) rfl rfl (Nat.le_of_ble_eq_true rfl) dX4_add_48 51 rfl rfl ?_
  refine g_aload_n C dX4_add_51 rfl 52 rfl 0 rfl ?_
  refine g_dup C dX4_add_52 rfl 53 rfl ?_
  refine g_get C iX4 0 rfl rfl 3 (by decide) (C.1.2.2.2.2 (.fieldLink RX4 21 "StackRuns$Rules" "stamp" "I") (List.mem_of_getElem? (i := 6) rfl)) rfl dX4_add_53 56 rfl ?_
  refine g_iconst (v := nI 1) C dX4_add_56 (by decide) 57 rfl ?_
  refine g_iadd (z := nI (st + 1)) C dX4_add_57 58 rfl (nI_add _ _) ?_
  refine g_put (ws' := [ob h0 4 [.int (nI n), .int (nI m), .int (nI (z + 1)), .int (nI (st + 1)), .ref qh, .ref qt, .ref qp, .ref qb], aN (eY E) qh 30 (up Hd z f), aN (eY E) qt 30 (up To z q), aO (eY E) qp 30 (up Tp z a), aO (eY E) qb 30 (up Bl z b)]) (ty := .int) C iX4 tyX4_ok nmX4 0 rfl rfl 3 (by decide) (C.1.2.2.2.2 (.fieldLink RX4 21 "StackRuns$Rules" "stamp" "I") (List.mem_of_getElem? (i := 6) rfl)) rfl (by decide +kernel) rfl rfl (Nat.le_of_ble_eq_true rfl) dX4_add_58 61 rfl rfl ?_
  refine g_aload_n C dX4_add_61 rfl 62 rfl 0 rfl ?_
  refine g_get C iX4 0 rfl rfl 2 (by decide) (C.1.2.2.2.2 (.fieldLink RX4 18 "StackRuns$Rules" "size" "I") (List.mem_of_getElem? (i := 2) rfl)) rfl dX4_add_62 65 rfl ?_
  refine g_iconst (v := nI 1) C dX4_add_65 (by decide) 66 rfl ?_
  refine g_isub (z := nI ((z + 1) - 1)) C dX4_add_66 67 rfl (pk_sub (by omega)) ?_
  have e_1 : z = ((z + 1) - 1) := by omega
  refine go_eq rfl (st' := [.int (nI z)]) (ws' := [ob h0 4 [.int (nI n), .int (nI m), .int (nI (z + 1)), .int (nI (st + 1)), .ref qh, .ref qt, .ref qp, .ref qb], aN (eY E) qh 30 (up Hd z f), aN (eY E) qt 30 (up To z q), aO (eY E) qp 30 (up Tp z a), aO (eY E) qb 30 (up Bl z b)]) (by first | rfl | (simp only [e_1, oI_s, oI_0]; first | done | rfl)) (by first | rfl | (simp only [e_1, oI_s, oI_0]; first | done | rfl)) ?_
  exact hret _ _ dX4_add_67
set_option maxHeartbeats 4000000 in
set_option maxRecDepth 100000 in
theorem c_X4_dropNewest (l : Launch) (D : va_G) (cy : Nat → ClassId) (h0 : Nat) (n : Nat) (m : Nat) (z : Nat) (st : Nat) (qh : Nat) (qt : Nat) (qp : Nat) (qb : Nat) (hz : 0 < z) : CoI l yX4_dropNewest wsX4_dropNewest 0 0 D cy [ob h0 4 [.int (nI n), .int (nI m), .int (nI z), .int (nI st), .ref qh, .ref qt, .ref qp, .ref qb]] [.ref h0] [ob h0 4 [.int (nI n), .int (nI m), .int (nI (z - 1)), .int (nI (st + 1)), .ref qh, .ref qt, .ref qp, .ref qb]] (nI (z - 1)) := by
  refine met_i (cc := cX4_dropNewest) (maxL := 1) (own := RX4) (lv := [(0, .ref h0)]) (by decide) rfl rfl rfl (Nat.le_of_ble_eq_true rfl) (fun E e1 e2 e3 C hret => ?_)
  subst e1; subst e2; subst e3
  have iX4 : ∀ w ∈ wsX40, w ∈ wsX4_dropNewest := fun _ h => List.mem_cons_of_mem _ (List.mem_append_right _ h)
  refine g_aload_n C dX4_dropNewest_0 rfl 1 rfl 0 rfl ?_
  refine g_dup C dX4_dropNewest_1 rfl 2 rfl ?_
  refine g_get C iX4 0 rfl rfl 2 (by decide) (C.1.2.2.2.2 (.fieldLink RX4 18 "StackRuns$Rules" "size" "I") (List.mem_of_getElem? (i := 1) rfl)) rfl dX4_dropNewest_2 5 rfl ?_
  refine g_iconst (v := nI 1) C dX4_dropNewest_5 (by decide) 6 rfl ?_
  refine g_isub (z := nI (z - 1)) C dX4_dropNewest_6 7 rfl (pk_sub (by omega)) ?_
  refine g_put (ws' := [ob h0 4 [.int (nI n), .int (nI m), .int (nI (z - 1)), .int (nI st), .ref qh, .ref qt, .ref qp, .ref qb]]) (ty := .int) C iX4 tyX4_ok nmX4 0 rfl rfl 2 (by decide) (C.1.2.2.2.2 (.fieldLink RX4 18 "StackRuns$Rules" "size" "I") (List.mem_of_getElem? (i := 1) rfl)) rfl (by decide +kernel) rfl rfl (Nat.le_of_ble_eq_true rfl) dX4_dropNewest_7 10 rfl rfl ?_
  refine g_aload_n C dX4_dropNewest_10 rfl 11 rfl 0 rfl ?_
  refine g_dup C dX4_dropNewest_11 rfl 12 rfl ?_
  refine g_get C iX4 0 rfl rfl 3 (by decide) (C.1.2.2.2.2 (.fieldLink RX4 21 "StackRuns$Rules" "stamp" "I") (List.mem_of_getElem? (i := 2) rfl)) rfl dX4_dropNewest_12 15 rfl ?_
  refine g_iconst (v := nI 1) C dX4_dropNewest_15 (by decide) 16 rfl ?_
  refine g_iadd (z := nI (st + 1)) C dX4_dropNewest_16 17 rfl (nI_add _ _) ?_
  refine g_put (ws' := [ob h0 4 [.int (nI n), .int (nI m), .int (nI (z - 1)), .int (nI (st + 1)), .ref qh, .ref qt, .ref qp, .ref qb]]) (ty := .int) C iX4 tyX4_ok nmX4 0 rfl rfl 3 (by decide) (C.1.2.2.2.2 (.fieldLink RX4 21 "StackRuns$Rules" "stamp" "I") (List.mem_of_getElem? (i := 2) rfl)) rfl (by decide +kernel) rfl rfl (Nat.le_of_ble_eq_true rfl) dX4_dropNewest_17 20 rfl rfl ?_
  refine g_aload_n C dX4_dropNewest_20 rfl 21 rfl 0 rfl ?_
  refine g_get C iX4 0 rfl rfl 2 (by decide) (C.1.2.2.2.2 (.fieldLink RX4 18 "StackRuns$Rules" "size" "I") (List.mem_of_getElem? (i := 1) rfl)) rfl dX4_dropNewest_21 24 rfl ?_
  exact hret _ _ dX4_dropNewest_24
set_option maxHeartbeats 4000000 in
set_option maxRecDepth 100000 in
theorem c_X4_matching (l : Launch) (D : va_G) (cy : Nat → ClassId) (h0 : Nat) (n : Nat) (m : Nat) (z : Nat) (st : Nat) (qh : Nat) (qt : Nat) (qp : Nat) (qb : Nat) (Hd : Nat → Nat) (u : Nat) (hz : z ≤ 30) (hH : ∀ r, Hd r < 25) (hu : u < 100) : CoI l yX4_matching wsX4_matching 0 0 D cy [ob h0 4 [.int (nI n), .int (nI m), .int (nI z), .int (nI st), .ref qh, .ref qt, .ref qp, .ref qb], aN cy qh 30 Hd] [.ref h0, .int (oI u)] [ob h0 4 [.int (nI n), .int (nI m), .int (nI z), .int (nI st), .ref qh, .ref qt, .ref qp, .ref qb], aN cy qh 30 Hd] (nI (matchF Hd u z)) := by
  refine met_i (cc := cX4_matching) (maxL := 4) (own := RX4) (lv := [(0, .ref h0), (1, .int (oI u))]) (by decide) rfl rfl rfl (Nat.le_of_ble_eq_true rfl) (fun E e1 e2 e3 C hret => ?_)
  subst e1; subst e2; subst e3
  have iX4 : ∀ w ∈ wsX40, w ∈ wsX4_matching := fun _ h => List.mem_cons_of_mem _ (List.mem_append_right _ h)
  refine g_iconst (v := nI 0) C dX4_matching_0 (by decide) 1 rfl ?_
  refine g_istore_n (lv' := [(2, .int (nI 0)), (0, .ref h0), (1, .int (oI u))]) C dX4_matching_1 rfl 2 rfl (by decide) rfl ?_
  refine g_iconst (v := nI 0) C dX4_matching_2 (by decide) 3 rfl ?_
  refine g_istore_n (lv' := [(3, .int (nI 0)), (2, .int (nI 0)), (0, .ref h0), (1, .int (oI u))]) C dX4_matching_3 rfl 4 rfl (by decide) rfl ?_
  have L4 : ∀ i, i ≤ z → Go E 0 0 4 [(3, .int (nI i)), (2, .int (nI (matchF Hd u i))), (0, .ref h0), (1, .int (oI u))] [] [ob h0 4 [.int (nI n), .int (nI m), .int (nI z), .int (nI st), .ref qh, .ref qt, .ref qp, .ref qb], aN (eY E) qh 30 Hd] := by
    refine go_for z (fun i => Go E 0 0 4 [(3, .int (nI i)), (2, .int (nI (matchF Hd u i))), (0, .ref h0), (1, .int (oI u))] [] [ob h0 4 [.int (nI n), .int (nI m), .int (nI z), .int (nI st), .ref qh, .ref qt, .ref qp, .ref qb], aN (eY E) qh 30 Hd]) (fun i hi_i ih_i => ?_)
    refine g_iload_n C dX4_matching_4 rfl 5 rfl 0 rfl ?_
    refine g_aload_n C dX4_matching_5 rfl 6 rfl 2 rfl ?_
    refine g_get C iX4 0 rfl rfl 2 (by decide) (C.1.2.2.2.2 (.fieldLink RX4 18 "StackRuns$Rules" "size" "I") (List.mem_of_getElem? (i := 1) rfl)) rfl dX4_matching_6 9 rfl ?_
    refine g_icmp_ge (X := z ≤ i) C dX4_matching_9 31 (by decide) 12 rfl (nI_leI (by have := matchF_le Hd u i; omega) (by have := matchF_le Hd u i; omega)) ?_ ?_
    · intro h9
      refine g_iload_n C dX4_matching_31 rfl 32 rfl 1 rfl ?_
      have e_1 : (matchF Hd u z) = (matchF Hd u i) := by (first | rfl | (have e : i = z := by omega); rw [e])
      refine go_eq rfl (st' := [.int (nI (matchF Hd u z))]) (ws' := [ob h0 4 [.int (nI n), .int (nI m), .int (nI z), .int (nI st), .ref qh, .ref qt, .ref qp, .ref qb], aN (eY E) qh 30 Hd]) (by first | rfl | (simp only [e_1, oI_s, oI_0]; first | done | rfl)) (by first | rfl | (simp only [e_1, oI_s, oI_0]; first | done | rfl)) ?_
      exact hret _ _ dX4_matching_32
    · intro h9
      refine g_aload_n C dX4_matching_12 rfl 13 rfl 2 rfl ?_
      refine g_get C iX4 0 rfl rfl 4 (by decide) (C.1.2.2.2.2 (.fieldLink RX4 24 "StackRuns$Rules" "head" "[I") (List.mem_of_getElem? (i := 2) rfl)) rfl dX4_matching_13 16 rfl ?_
      refine g_iload_n C dX4_matching_16 rfl 17 rfl 0 rfl ?_
      refine g_iald (i := i) C 1 rfl (by omega) (by decide) dX4_matching_17 18 rfl ?_
      refine g_iload_n C dX4_matching_18 rfl 19 rfl 3 rfl ?_
      refine g_icmp_ne (X := ¬ Hd i + 1 = u) C dX4_matching_19 25 (by decide) 22 rfl (not_congr (nI_oI (by have := hH i; omega) (by omega))) ?_ ?_
      · intro h19
        refine g_iinc (lv' := [(3, .int (nI (i + 1))), (2, .int (nI (matchF Hd u i))), (0, .ref h0), (1, .int (oI u))]) C dX4_matching_25 28 rfl 0 rfl (by decide) rfl ?_
        refine g_goto C dX4_matching_28 4 (by decide) ?_
        have e_2 : (matchF Hd u (i + 1)) = (matchF Hd u i) := by simp [matchF, *]
        refine go_eq (lv' := [(3, .int (nI (i + 1))), (2, .int (nI (matchF Hd u (i + 1)))), (0, .ref h0), (1, .int (oI u))]) (ws' := [ob h0 4 [.int (nI n), .int (nI m), .int (nI z), .int (nI st), .ref qh, .ref qt, .ref qp, .ref qb], aN (eY E) qh 30 Hd]) (by first | rfl | (simp only [e_2, oI_s, oI_0]; first | done | rfl)) rfl (by first | rfl | (simp only [e_2, oI_s, oI_0]; first | done | rfl)) ?_
        exact ih_i (by omega)
      · intro h19
        have h19 : Hd i + 1 = u := Decidable.not_not.mp h19
        refine g_iinc (lv' := [(2, .int (nI ((matchF Hd u i) + 1))), (3, .int (nI i)), (0, .ref h0), (1, .int (oI u))]) C dX4_matching_22 25 rfl 1 rfl (by decide) rfl ?_
        refine g_iinc (lv' := [(3, .int (nI (i + 1))), (2, .int (nI ((matchF Hd u i) + 1))), (0, .ref h0), (1, .int (oI u))]) C dX4_matching_25 28 rfl 1 rfl (by decide) rfl ?_
        refine g_goto C dX4_matching_28 4 (by decide) ?_
        have e_3 : (matchF Hd u (i + 1)) = ((matchF Hd u i) + 1) := by simp [matchF, *]
        refine go_eq (lv' := [(3, .int (nI (i + 1))), (2, .int (nI (matchF Hd u (i + 1)))), (0, .ref h0), (1, .int (oI u))]) (ws' := [ob h0 4 [.int (nI n), .int (nI m), .int (nI z), .int (nI st), .ref qh, .ref qt, .ref qp, .ref qb], aN (eY E) qh 30 Hd]) (by first | rfl | (simp only [e_3, oI_s, oI_0]; first | done | rfl)) rfl (by first | rfl | (simp only [e_3, oI_s, oI_0]; first | done | rfl)) ?_
        exact ih_i (by omega)
  have e_4 : (matchF Hd u 0) = 0 := by rfl
  refine go_eq (lv' := [(3, .int (nI 0)), (2, .int (nI (matchF Hd u 0))), (0, .ref h0), (1, .int (oI u))]) (ws' := [ob h0 4 [.int (nI n), .int (nI m), .int (nI z), .int (nI st), .ref qh, .ref qt, .ref qp, .ref qb], aN (eY E) qh 30 Hd]) (by first | rfl | (simp only [e_4, oI_s, oI_0]; first | done | rfl)) rfl (by first | rfl | (simp only [e_4, oI_s, oI_0]; first | done | rfl)) ?_
  exact L4 0 (by omega)
set_option maxHeartbeats 4000000 in
set_option maxRecDepth 100000 in
theorem c_J7_fill_53178 (l : Launch) (D : va_G) (cy : Nat → ClassId) (a : Nat) (k : Nat) (X : Nat → Nat) (v : Nat) (hk : k < 1000) : CoV l yJ7_fill_53178 wsJ7_fill_53178 0 0 D cy [aN cy a k X] [.ref a, .int (nI v)] [aN cy a k (fun _ => v)] := by
  refine met_v (cc := cJ7_fill_53178) (maxL := 4) (own := RJ7) (lv := [(0, .ref a), (1, .int (nI v))]) (by decide) rfl rfl rfl (Nat.le_of_ble_eq_true rfl) (fun E e1 e2 e3 C hret => ?_)
  subst e1; subst e2; subst e3
  refine g_iconst (v := nI 0) C dJ7_fill_53178_0 (by decide) 1 rfl ?_
  refine g_istore_n (lv' := [(2, .int (nI 0)), (0, .ref a), (1, .int (nI v))]) C dJ7_fill_53178_1 rfl 2 rfl (by decide) rfl ?_
  refine g_aload_n C dJ7_fill_53178_2 rfl 3 rfl 1 rfl ?_
  refine g_alenI C 0 rfl dJ7_fill_53178_3 4 rfl ?_
  refine g_istore_n (lv' := [(3, .int (nI k)), (2, .int (nI 0)), (0, .ref a), (1, .int (nI v))]) C dJ7_fill_53178_4 rfl 5 rfl (by decide) rfl ?_
  have L5 : ∀ i, i ≤ k → Go E 0 0 5 [(3, .int (nI k)), (2, .int (nI i)), (0, .ref a), (1, .int (nI v))] [] [aN (eY E) a k (fillF X v i)] := by
    refine go_for k (fun i => Go E 0 0 5 [(3, .int (nI k)), (2, .int (nI i)), (0, .ref a), (1, .int (nI v))] [] [aN (eY E) a k (fillF X v i)]) (fun i hi_i ih_i => ?_)
    refine g_iload_n C dJ7_fill_53178_5 rfl 6 rfl 1 rfl ?_
    refine g_iload_n C dJ7_fill_53178_6 rfl 7 rfl 0 rfl ?_
    refine g_icmp_ge (X := k ≤ i) C dJ7_fill_53178_7 20 (by decide) 10 rfl (nI_leI (by omega) (by omega)) ?_ ?_
    · intro h7
      refine go_swap (ws' := [aN (eY E) a k (fun _ => v)]) 0 rfl (cell_N _ _ (fillF X v i) (fun _ => v) (fun k_ hk_ => by exact fillF_in X v (by omega))) rfl ?_
      exact hret _ _ dJ7_fill_53178_20
    · intro h7
      refine g_aload_n C dJ7_fill_53178_10 rfl 11 rfl 2 rfl ?_
      refine g_iload_n C dJ7_fill_53178_11 rfl 12 rfl 1 rfl ?_
      refine g_iload_n C dJ7_fill_53178_12 rfl 13 rfl 3 rfl ?_
      refine g_iast (ws' := [aN (eY E) a k (up (fillF X v i) i v)]) (i := i) C 0 rfl (by omega) (by omega) dJ7_fill_53178_13 14 rfl (upd_N _ _ _) rfl ?_
      refine g_iinc (lv' := [(2, .int (nI (i + 1))), (3, .int (nI k)), (0, .ref a), (1, .int (nI v))]) C dJ7_fill_53178_14 17 rfl 1 rfl (by decide) rfl ?_
      refine g_goto C dJ7_fill_53178_17 5 (by decide) ?_
      refine go_lv (lv' := [(3, .int (nI k)), (2, .int (nI (i + 1))), (0, .ref a), (1, .int (nI v))]) [1, 0, 2, 3] rfl ?_
      have e_1 : (fillF X v (i + 1)) = (up (fillF X v i) i v) := by rw [fillF_s]
      refine go_eq (lv' := [(3, .int (nI k)), (2, .int (nI (i + 1))), (0, .ref a), (1, .int (nI v))]) (ws' := [aN (eY E) a k (fillF X v (i + 1))]) (by first | rfl | (simp only [e_1, oI_s, oI_0]; first | done | rfl)) rfl (by first | rfl | (simp only [e_1, oI_s, oI_0]; first | done | rfl)) ?_
      exact ih_i (by omega)
  have e_2 : (fillF X v 0) = X := by rw [fillF_0]
  refine go_eq (lv' := [(3, .int (nI k)), (2, .int (nI 0)), (0, .ref a), (1, .int (nI v))]) (ws' := [aN (eY E) a k (fillF X v 0)]) (by first | rfl | (simp only [e_2, oI_s, oI_0]; first | done | rfl)) rfl (by first | rfl | (simp only [e_2, oI_s, oI_0]; first | done | rfl)) ?_
  exact L5 0 (by omega)
set_option maxHeartbeats 4000000 in
set_option maxRecDepth 100000 in
theorem c_J7_fill_d0a16 (l : Launch) (D : va_G) (cy : Nat → ClassId) (a : Nat) (k : Nat) (X : Nat → Nat) (v : Nat) (hk : k < 1000) : CoV l yJ7_fill_d0a16 wsJ7_fill_d0a16 0 0 D cy [aL cy a k X] [.ref a, .long (lN v)] [aL cy a k (fun _ => v)] := by
  refine met_v (cc := cJ7_fill_d0a16) (maxL := 5) (own := RJ7) (lv := [(0, .ref a), (1, .long (lN v))]) (by decide) rfl rfl rfl (Nat.le_of_ble_eq_true rfl) (fun E e1 e2 e3 C hret => ?_)
  subst e1; subst e2; subst e3
  refine g_iconst (v := nI 0) C dJ7_fill_d0a16_0 (by decide) 1 rfl ?_
  refine g_istore_n (lv' := [(3, .int (nI 0)), (0, .ref a), (1, .long (lN v))]) C dJ7_fill_d0a16_1 rfl 2 rfl (by decide) rfl ?_
  refine g_aload_n C dJ7_fill_d0a16_2 rfl 3 rfl 1 rfl ?_
  refine g_alenL C 0 rfl dJ7_fill_d0a16_3 4 rfl ?_
  refine g_istore (lv' := [(4, .int (nI k)), (3, .int (nI 0)), (0, .ref a), (1, .long (lN v))]) C dJ7_fill_d0a16_4 6 rfl (by decide) rfl ?_
  have L6 : ∀ i, i ≤ k → Go E 0 0 6 [(4, .int (nI k)), (3, .int (nI i)), (0, .ref a), (1, .long (lN v))] [] [aL (eY E) a k (fillF X v i)] := by
    refine go_for k (fun i => Go E 0 0 6 [(4, .int (nI k)), (3, .int (nI i)), (0, .ref a), (1, .long (lN v))] [] [aL (eY E) a k (fillF X v i)]) (fun i hi_i ih_i => ?_)
    refine g_iload_n C dJ7_fill_d0a16_6 rfl 7 rfl 1 rfl ?_
    refine g_iload C dJ7_fill_d0a16_7 9 rfl 0 rfl ?_
    refine g_icmp_ge (X := k ≤ i) C dJ7_fill_d0a16_9 22 (by decide) 12 rfl (nI_leI (by omega) (by omega)) ?_ ?_
    · intro h9
      refine go_swap (ws' := [aL (eY E) a k (fun _ => v)]) 0 rfl (cell_L _ _ (fillF X v i) (fun _ => v) (fun k_ hk_ => by exact fillF_in X v (by omega))) rfl ?_
      exact hret _ _ dJ7_fill_d0a16_22
    · intro h9
      refine g_aload_n C dJ7_fill_d0a16_12 rfl 13 rfl 2 rfl ?_
      refine g_iload_n C dJ7_fill_d0a16_13 rfl 14 rfl 1 rfl ?_
      refine g_lload_n C dJ7_fill_d0a16_14 rfl 15 rfl 3 rfl ?_
      refine g_last (ws' := [aL (eY E) a k (up (fillF X v i) i v)]) (i := i) C 0 rfl (by omega) (by omega) dJ7_fill_d0a16_15 16 rfl (upd_L _ _ _) rfl ?_
      refine g_iinc (lv' := [(3, .int (nI (i + 1))), (4, .int (nI k)), (0, .ref a), (1, .long (lN v))]) C dJ7_fill_d0a16_16 19 rfl 1 rfl (by decide) rfl ?_
      refine g_goto C dJ7_fill_d0a16_19 6 (by decide) ?_
      refine go_lv (lv' := [(4, .int (nI k)), (3, .int (nI (i + 1))), (0, .ref a), (1, .long (lN v))]) [1, 0, 2, 3] rfl ?_
      have e_1 : (fillF X v (i + 1)) = (up (fillF X v i) i v) := by rw [fillF_s]
      refine go_eq (lv' := [(4, .int (nI k)), (3, .int (nI (i + 1))), (0, .ref a), (1, .long (lN v))]) (ws' := [aL (eY E) a k (fillF X v (i + 1))]) (by first | rfl | (simp only [e_1, oI_s, oI_0]; first | done | rfl)) rfl (by first | rfl | (simp only [e_1, oI_s, oI_0]; first | done | rfl)) ?_
      exact ih_i (by omega)
  have e_2 : (fillF X v 0) = X := by rw [fillF_0]
  refine go_eq (lv' := [(4, .int (nI k)), (3, .int (nI 0)), (0, .ref a), (1, .long (lN v))]) (ws' := [aL (eY E) a k (fillF X v 0)]) (by first | rfl | (simp only [e_2, oI_s, oI_0]; first | done | rfl)) rfl (by first | rfl | (simp only [e_2, oI_s, oI_0]; first | done | rfl)) ?_
  exact L6 0 (by omega)
set_option maxHeartbeats 4000000 in
set_option maxRecDepth 100000 in
theorem c_X5_restart (l : Launch) (D : va_G) (cy : Nat → ClassId) (g0 : Nat) (c : Nat) (h : Nat) (qs : Nat) (p : Nat)  : CoV l yX5_restart wsX5_restart 0 0 D cy [ob g0 5 [.int (nI c), .int (nI h), .ref qs]] [.ref g0, .int (nI p)] [ob g0 5 [.int (nI p), .int (nI 0), .ref qs]] := by
  refine met_v (cc := cX5_restart) (maxL := 2) (own := RX5) (lv := [(0, .ref g0), (1, .int (nI p))]) (by decide) rfl rfl rfl (Nat.le_of_ble_eq_true rfl) (fun E e1 e2 e3 C hret => ?_)
  subst e1; subst e2; subst e3
  have iX5 : ∀ w ∈ wsX50, w ∈ wsX5_restart := fun _ h => List.mem_cons_of_mem _ (List.mem_append_right _ h)
  refine g_aload_n C dX5_restart_0 rfl 1 rfl 0 rfl ?_
  refine g_iload_n C dX5_restart_1 rfl 2 rfl 1 rfl ?_
  refine g_put (ws' := [ob g0 5 [.int (nI p), .int (nI h), .ref qs]]) (ty := .int) C iX5 tyX5_ok nmX5 0 rfl rfl 0 (by decide) (C.1.2.2.2.2 (.fieldLink RX5 9 "StackRuns$Stand" "control" "I") (List.mem_of_getElem? (i := 1) rfl)) rfl (by decide +kernel) rfl rfl (Nat.le_of_ble_eq_true rfl) dX5_restart_2 5 rfl rfl ?_
  refine g_aload_n C dX5_restart_5 rfl 6 rfl 0 rfl ?_
  refine g_iconst (v := nI 0) C dX5_restart_6 (by decide) 7 rfl ?_
  refine g_put (ws' := [ob g0 5 [.int (nI p), .int (nI 0), .ref qs]]) (ty := .int) C iX5 tyX5_ok nmX5 0 rfl rfl 1 (by decide) (C.1.2.2.2.2 (.fieldLink RX5 15 "StackRuns$Stand" "height" "I") (List.mem_of_getElem? (i := 2) rfl)) rfl (by decide +kernel) rfl rfl (Nat.le_of_ble_eq_true rfl) dX5_restart_7 10 rfl rfl ?_
  exact hret _ _ dX5_restart_10
set_option maxHeartbeats 4000000 in
set_option maxRecDepth 100000 in
theorem c_X5_cover (l : Launch) (D : va_G) (cy : Nat → ClassId) (g0 : Nat) (c : Nat) (h : Nat) (qs : Nat) (Sg : Nat → Nat) (s : Nat) (hh : h < 60) : CoV l yX5_cover wsX5_cover 0 0 D cy [ob g0 5 [.int (nI c), .int (nI h), .ref qs], aN cy qs 60 Sg] [.ref g0, .int (nI s)] [ob g0 5 [.int (nI c), .int (nI (h + 1)), .ref qs], aN cy qs 60 (up Sg h s)] := by
  refine met_v (cc := cX5_cover) (maxL := 2) (own := RX5) (lv := [(0, .ref g0), (1, .int (nI s))]) (by decide) rfl rfl rfl (Nat.le_of_ble_eq_true rfl) (fun E e1 e2 e3 C hret => ?_)
  subst e1; subst e2; subst e3
  have iX5 : ∀ w ∈ wsX50, w ∈ wsX5_cover := fun _ h => List.mem_cons_of_mem _ (List.mem_append_right _ h)
  refine g_aload_n C dX5_cover_0 rfl 1 rfl 0 rfl ?_
  refine g_get C iX5 0 rfl rfl 2 (by decide) (C.1.2.2.2.2 (.fieldLink RX5 18 "StackRuns$Stand" "signs" "[I") (List.mem_of_getElem? (i := 1) rfl)) rfl dX5_cover_1 4 rfl ?_
  refine g_aload_n C dX5_cover_4 rfl 5 rfl 0 rfl ?_
  refine g_get C iX5 0 rfl rfl 1 (by decide) (C.1.2.2.2.2 (.fieldLink RX5 15 "StackRuns$Stand" "height" "I") (List.mem_of_getElem? (i := 2) rfl)) rfl dX5_cover_5 8 rfl ?_
  refine g_iload_n C dX5_cover_8 rfl 9 rfl 1 rfl ?_
  refine g_iast (ws' := [ob g0 5 [.int (nI c), .int (nI h), .ref qs], aN (eY E) qs 60 (up Sg h s)]) (i := h) C 1 rfl (by omega) (by decide) dX5_cover_9 10 rfl (upd_N _ _ _) rfl ?_
  refine g_aload_n C dX5_cover_10 rfl 11 rfl 0 rfl ?_
  refine g_dup C dX5_cover_11 rfl 12 rfl ?_
  refine g_get C iX5 0 rfl rfl 1 (by decide) (C.1.2.2.2.2 (.fieldLink RX5 15 "StackRuns$Stand" "height" "I") (List.mem_of_getElem? (i := 2) rfl)) rfl dX5_cover_12 15 rfl ?_
  refine g_iconst (v := nI 1) C dX5_cover_15 (by decide) 16 rfl ?_
  refine g_iadd (z := nI (h + 1)) C dX5_cover_16 17 rfl (nI_add _ _) ?_
  refine g_put (ws' := [ob g0 5 [.int (nI c), .int (nI (h + 1)), .ref qs], aN (eY E) qs 60 (up Sg h s)]) (ty := .int) C iX5 tyX5_ok nmX5 0 rfl rfl 1 (by decide) (C.1.2.2.2.2 (.fieldLink RX5 15 "StackRuns$Stand" "height" "I") (List.mem_of_getElem? (i := 2) rfl)) rfl (by decide +kernel) rfl rfl (Nat.le_of_ble_eq_true rfl) dX5_cover_17 20 rfl rfl ?_
  exact hret _ _ dX5_cover_20
set_option maxHeartbeats 4000000 in
set_option maxRecDepth 100000 in
theorem c_X5_head (l : Launch) (D : va_G) (cy : Nat → ClassId) (g0 : Nat) (c : Nat) (h : Nat) (qs : Nat) (Sg : Nat → Nat) (hh : h ≤ 60) : CoI l yX5_head wsX5_head 1 21 D cy [ob g0 5 [.int (nI c), .int (nI h), .ref qs], aN cy qs 60 Sg] [.ref g0] [ob g0 5 [.int (nI c), .int (nI h), .ref qs], aN cy qs 60 Sg] (oI (headF c h Sg)) := by
  refine met_i (cc := cX5_head) (maxL := 1) (own := RX5) (lv := [(0, .ref g0)]) (by decide) rfl rfl rfl (Nat.le_of_ble_eq_true rfl) (fun E e1 e2 e3 C hret => ?_)
  subst e1; subst e2; subst e3
  have iX5 : ∀ w ∈ wsX50, w ∈ wsX5_head := fun _ h => List.mem_cons_of_mem _ (List.mem_append_right _ h)
  refine g_aload_n C dX5_head_0 rfl 1 rfl 0 rfl ?_
  refine g_get C iX5 0 rfl rfl 1 (by decide) (C.1.2.2.2.2 (.fieldLink RX5 15 "StackRuns$Stand" "height" "I") (List.mem_of_getElem? (i := 1) rfl)) rfl dX5_head_1 4 rfl ?_
  refine g_if_ne (X := ¬ h = 0) C dX5_head_4 11 (by decide) 7 rfl (not_congr (nI_eq0 (by omega))) ?_ ?_
  · intro h4
    refine g_aload_n C dX5_head_11 rfl 12 rfl 0 rfl ?_
    refine g_get C iX5 0 rfl rfl 0 (by decide) (C.1.2.2.2.2 (.fieldLink RX5 9 "StackRuns$Stand" "control" "I") (List.mem_of_getElem? (i := 2) rfl)) rfl dX5_head_12 15 rfl ?_
    refine g_aload_n C dX5_head_15 rfl 16 rfl 0 rfl ?_
    refine g_get C iX5 0 rfl rfl 2 (by decide) (C.1.2.2.2.2 (.fieldLink RX5 18 "StackRuns$Stand" "signs" "[I") (List.mem_of_getElem? (i := 3) rfl)) rfl dX5_head_16 19 rfl ?_
    refine g_aload_n C dX5_head_19 rfl 20 rfl 0 rfl ?_
    refine g_get C iX5 0 rfl rfl 1 (by decide) (C.1.2.2.2.2 (.fieldLink RX5 15 "StackRuns$Stand" "height" "I") (List.mem_of_getElem? (i := 1) rfl)) rfl dX5_head_20 23 rfl ?_
    refine g_iconst (v := nI 1) C dX5_head_23 (by decide) 24 rfl ?_
    refine g_isub (z := nI (h - 1)) C dX5_head_24 25 rfl (pk_sub (by omega)) ?_
    refine g_iald (i := (h - 1)) C 1 rfl (by omega) (by decide) dX5_head_25 26 rfl ?_
    refine g_cSNi (ws2 := [ob g0 5 [.int (nI c), .int (nI h), .ref qs], aN (eY E) qs 60 Sg]) (As := [.int (nI c), .int (nI (Sg (h - 1)))]) (st := []) (wsc := []) (wr := [ob g0 5 [.int (nI c), .int (nI h), .ref qs], aN (eY E) qs 60 Sg]) C (c_X6_headOf (eL E) (eD E) (eY E) c (Sg (h - 1)) ) 2 ggX5_head_X6_headOf (nm_RX5_22 C.2.2.1) (List.mem_of_getElem? (i := 5) rfl) (List.mem_of_getElem? (i := 4) rfl) rfl (by decide +kernel) (by decide) ⟨Nat.zero_le _, Nat.zero_le _⟩ rfl rfl (Nat.le_of_ble_eq_true rfl) [] [0, 1] [0, 1] rfl rfl (by decide) (by decide) rfl (by decide) dX5_head_26 29 rfl ?_
    have e_1 : (headF c h Sg) = ((c * 5 + (Sg (h - 1))) + 1) := by simp [headF, *]
    refine go_eq rfl (st' := [.int (oI (headF c h Sg))]) (ws' := [ob g0 5 [.int (nI c), .int (nI h), .ref qs], aN (eY E) qs 60 Sg]) (by first | rfl | (simp only [e_1, oI_s, oI_0]; first | done | rfl)) (by first | rfl | (simp only [e_1, oI_s, oI_0]; first | done | rfl)) ?_
    exact hret _ _ dX5_head_29
  · intro h4
    have h4 : h = 0 := Decidable.not_not.mp h4
    refine g_iconst (v := (-1)) C dX5_head_7 (by decide) 8 rfl ?_
    refine g_goto C dX5_head_8 29 (by decide) ?_
    have e_2 : (headF c h Sg) = 0 := by simp [headF, *]
    refine go_eq rfl (st' := [.int (oI (headF c h Sg))]) (ws' := [ob g0 5 [.int (nI c), .int (nI h), .ref qs], aN (eY E) qs 60 Sg]) (by first | rfl | (simp only [e_2, oI_s, oI_0]; first | done | rfl)) (by first | rfl | (simp only [e_2, oI_s, oI_0]; first | done | rfl)) ?_
    exact hret _ _ dX5_head_29
set_option maxHeartbeats 4000000 in
set_option maxRecDepth 100000 in
theorem c_X5_hasRoom (l : Launch) (D : va_G) (cy : Nat → ClassId) (g0 : Nat) (c : Nat) (h : Nat) (qs : Nat) (h0 : Nat) (n : Nat) (m : Nat) (z : Nat) (st : Nat) (qh : Nat) (qt : Nat) (qp : Nat) (qb : Nat) (Bl : Nat → Nat) (r : Nat) (hh : h ≤ 60) (hB : ∀ r, Bl r ≤ 5) (hr : r < 30) : CoI l yX5_hasRoom wsX5_hasRoom 0 0 D cy [ob g0 5 [.int (nI c), .int (nI h), .ref qs], ob h0 4 [.int (nI n), .int (nI m), .int (nI z), .int (nI st), .ref qh, .ref qt, .ref qp, .ref qb], aO cy qb 30 Bl] [.ref g0, .ref h0, .int (nI r)] [ob g0 5 [.int (nI c), .int (nI h), .ref qs], ob h0 4 [.int (nI n), .int (nI m), .int (nI z), .int (nI st), .ref qh, .ref qt, .ref qp, .ref qb], aO cy qb 30 Bl] (bI (decide (Bl r = 0 ∨ h < 60))) := by
  refine met_z (cc := cX5_hasRoom) (maxL := 3) (own := RX5) (lv := [(0, .ref g0), (1, .ref h0), (2, .int (nI r))]) (by decide) rfl rfl rfl (Nat.le_of_ble_eq_true rfl) (fun E e1 e2 e3 C hret => ?_)
  subst e1; subst e2; subst e3
  have iX4 : ∀ w ∈ wsX40, w ∈ wsX5_hasRoom := fun _ h => List.mem_cons_of_mem _ (List.mem_append_left _ (List.mem_append_right _ h))
  have iX5 : ∀ w ∈ wsX50, w ∈ wsX5_hasRoom := fun _ h => List.mem_cons_of_mem _ (List.mem_append_right _ h)
  have hB1 := hB r
  refine g_aload_n C dX5_hasRoom_0 rfl 1 rfl 1 rfl ?_
  refine g_getN C iX4 1 rfl rfl 7 (by decide) (nf_RX5_26 C.2.2.1 _) rfl dX5_hasRoom_1 4 rfl ?_
  refine g_iload_n C dX5_hasRoom_4 rfl 5 rfl 2 rfl ?_
  refine g_iald (i := r) C 2 rfl (by omega) (by decide) dX5_hasRoom_5 6 rfl ?_
  refine g_iconst (v := (-1)) C dX5_hasRoom_6 (by decide) 7 rfl ?_
  refine g_icmp_eq (X := Bl r = 0) C dX5_hasRoom_7 19 (by decide) 10 rfl (oI_eq (by omega)) ?_ ?_
  · intro h7
    refine g_iconst (v := nI 1) C dX5_hasRoom_19 (by decide) 20 rfl ?_
    refine g_goto C dX5_hasRoom_20 24 (by decide) ?_
    have e_1 : (decide (Bl r = 0 ∨ h < 60)) = true := by simp; omega
    refine go_eq rfl (st' := [.int (bI (decide (Bl r = 0 ∨ h < 60)))]) (ws' := [ob g0 5 [.int (nI c), .int (nI h), .ref qs], ob h0 4 [.int (nI n), .int (nI m), .int (nI z), .int (nI st), .ref qh, .ref qt, .ref qp, .ref qb], aO (eY E) qb 30 Bl]) (by first | rfl | (simp only [e_1, oI_s, oI_0]; first | done | rfl)) (by first | rfl | (simp only [e_1, oI_s, oI_0]; first | done | rfl)) ?_
    exact hret _ _ dX5_hasRoom_24
  · intro h7
    refine g_aload_n C dX5_hasRoom_10 rfl 11 rfl 0 rfl ?_
    refine g_get C iX5 0 rfl rfl 1 (by decide) (C.1.2.2.2.2 (.fieldLink RX5 15 "StackRuns$Stand" "height" "I") (List.mem_of_getElem? (i := 1) rfl)) rfl dX5_hasRoom_11 14 rfl ?_
    refine g_bipush (v := nI 60) C dX5_hasRoom_14 (by decide) 16 rfl ?_
    refine g_icmp_ge (X := 60 ≤ h) C dX5_hasRoom_16 23 (by decide) 19 rfl (nI_leI (by omega) (by omega)) ?_ ?_
    · intro h16
      refine g_iconst (v := nI 0) C dX5_hasRoom_23 (by decide) 24 rfl ?_
      have e_2 : (decide (Bl r = 0 ∨ h < 60)) = false := by simp; omega
      refine go_eq rfl (st' := [.int (bI (decide (Bl r = 0 ∨ h < 60)))]) (ws' := [ob g0 5 [.int (nI c), .int (nI h), .ref qs], ob h0 4 [.int (nI n), .int (nI m), .int (nI z), .int (nI st), .ref qh, .ref qt, .ref qp, .ref qb], aO (eY E) qb 30 Bl]) (by first | rfl | (simp only [e_2, oI_s, oI_0]; first | done | rfl)) (by first | rfl | (simp only [e_2, oI_s, oI_0]; first | done | rfl)) ?_
      exact hret _ _ dX5_hasRoom_24
    · intro h16
      refine g_iconst (v := nI 1) C dX5_hasRoom_19 (by decide) 20 rfl ?_
      refine g_goto C dX5_hasRoom_20 24 (by decide) ?_
      have e_3 : (decide (Bl r = 0 ∨ h < 60)) = true := by simp; omega
      refine go_eq rfl (st' := [.int (bI (decide (Bl r = 0 ∨ h < 60)))]) (ws' := [ob g0 5 [.int (nI c), .int (nI h), .ref qs], ob h0 4 [.int (nI n), .int (nI m), .int (nI z), .int (nI st), .ref qh, .ref qt, .ref qp, .ref qb], aO (eY E) qb 30 Bl]) (by first | rfl | (simp only [e_3, oI_s, oI_0]; first | done | rfl)) (by first | rfl | (simp only [e_3, oI_s, oI_0]; first | done | rfl)) ?_
      exact hret _ _ dX5_hasRoom_24
set_option maxHeartbeats 4000000 in
set_option maxRecDepth 100000 in
theorem c_X5_change (l : Launch) (D : va_G) (cy : Nat → ClassId) (g0 : Nat) (c : Nat) (h : Nat) (qs : Nat) (Sg : Nat → Nat) (h0 : Nat) (n : Nat) (m : Nat) (z : Nat) (st : Nat) (qh : Nat) (qt : Nat) (qp : Nat) (qb : Nat) (To : Nat → Nat) (Tp : Nat → Nat) (Bl : Nat → Nat) (r : Nat) (hh : h ≤ 60) (h0h : 0 < h) (hB : ∀ r, Bl r ≤ 5) (hT : ∀ r, Tp r ≤ 5) (hr : r < 30) (hroom : Bl r = 0 ∨ h < 60) : CoV l yX5_change wsX5_change 1 21 D cy [ob g0 5 [.int (nI c), .int (nI h), .ref qs], aN cy qs 60 Sg, ob h0 4 [.int (nI n), .int (nI m), .int (nI z), .int (nI st), .ref qh, .ref qt, .ref qp, .ref qb], aN cy qt 30 To, aO cy qp 30 Tp, aO cy qb 30 Bl] [.ref g0, .ref h0, .int (nI r)] [ob g0 5 [.int (nI (To r)), .int (nI (chH h (Tp r) (Bl r))), .ref qs], aN cy qs 60 (chS Sg h (Tp r) (Bl r)), ob h0 4 [.int (nI n), .int (nI m), .int (nI z), .int (nI st), .ref qh, .ref qt, .ref qp, .ref qb], aN cy qt 30 To, aO cy qp 30 Tp, aO cy qb 30 Bl] := by
  refine met_v (cc := cX5_change) (maxL := 3) (own := RX5) (lv := [(0, .ref g0), (1, .ref h0), (2, .int (nI r))]) (by decide) rfl rfl rfl (Nat.le_of_ble_eq_true rfl) (fun E e1 e2 e3 C hret => ?_)
  subst e1; subst e2; subst e3
  have iX4 : ∀ w ∈ wsX40, w ∈ wsX5_change := fun _ h => List.mem_cons_of_mem _ (List.mem_append_right _ h)
  have iX5 : ∀ w ∈ wsX50, w ∈ wsX5_change := fun _ h => List.mem_cons_of_mem _ (List.mem_append_left _ (List.mem_append_right _ h))
  have hB1 := hB r
  have hT1 := hT r
  refine g_aload_n C dX5_change_0 rfl 1 rfl 0 rfl ?_
  refine g_dup C dX5_change_1 rfl 2 rfl ?_
  refine g_get C iX5 0 rfl rfl 1 (by decide) (C.1.2.2.2.2 (.fieldLink RX5 15 "StackRuns$Stand" "height" "I") (List.mem_of_getElem? (i := 1) rfl)) rfl dX5_change_2 5 rfl ?_
  refine g_iconst (v := nI 1) C dX5_change_5 (by decide) 6 rfl ?_
  refine g_isub (z := nI (h - 1)) C dX5_change_6 7 rfl (pk_sub (by omega)) ?_
  refine g_put (ws' := [ob g0 5 [.int (nI c), .int (nI (h - 1)), .ref qs], aN (eY E) qs 60 Sg, ob h0 4 [.int (nI n), .int (nI m), .int (nI z), .int (nI st), .ref qh, .ref qt, .ref qp, .ref qb], aN (eY E) qt 30 To, aO (eY E) qp 30 Tp, aO (eY E) qb 30 Bl]) (ty := .int) C iX5 tyX5_ok nmX5 0 rfl rfl 1 (by decide) (C.1.2.2.2.2 (.fieldLink RX5 15 "StackRuns$Stand" "height" "I") (List.mem_of_getElem? (i := 1) rfl)) rfl (by decide +kernel) rfl rfl (Nat.le_of_ble_eq_true rfl) dX5_change_7 10 rfl rfl ?_
  refine g_aload_n C dX5_change_10 rfl 11 rfl 1 rfl ?_
  refine g_getN C iX4 2 rfl rfl 7 (by decide) (nf_RX5_26 C.2.2.1 _) rfl dX5_change_11 14 rfl ?_
  refine g_iload_n C dX5_change_14 rfl 15 rfl 2 rfl ?_
  refine g_iald (i := r) C 5 rfl (by omega) (by decide) dX5_change_15 16 rfl ?_
  refine g_iconst (v := (-1)) C dX5_change_16 (by decide) 17 rfl ?_
  refine g_icmp_eq (X := Bl r = 0) C dX5_change_17 30 (by decide) 20 rfl (oI_eq (by omega)) ?_ ?_
  · intro h17
    refine g_aload_n C dX5_change_30 rfl 31 rfl 1 rfl ?_
    refine g_getN C iX4 2 rfl rfl 6 (by decide) (nf_RX5_35 C.2.2.1 _) rfl dX5_change_31 34 rfl ?_
    refine g_iload_n C dX5_change_34 rfl 35 rfl 2 rfl ?_
    refine g_iald (i := r) C 4 rfl (by omega) (by decide) dX5_change_35 36 rfl ?_
    refine g_iconst (v := (-1)) C dX5_change_36 (by decide) 37 rfl ?_
    refine g_icmp_eq (X := Tp r = 0) C dX5_change_37 50 (by decide) 40 rfl (oI_eq (by omega)) ?_ ?_
    · intro h37
      refine g_aload_n C dX5_change_50 rfl 51 rfl 0 rfl ?_
      refine g_aload_n C dX5_change_51 rfl 52 rfl 1 rfl ?_
      refine g_getN C iX4 2 rfl rfl 5 (by decide) (nf_RX5_38 C.2.2.1 _) rfl dX5_change_52 55 rfl ?_
      refine g_iload_n C dX5_change_55 rfl 56 rfl 2 rfl ?_
      refine g_iald (i := r) C 3 rfl (by omega) (by decide) dX5_change_56 57 rfl ?_
      refine g_put (ws' := [ob g0 5 [.int (nI (To r)), .int (nI (h - 1)), .ref qs], aN (eY E) qs 60 Sg, ob h0 4 [.int (nI n), .int (nI m), .int (nI z), .int (nI st), .ref qh, .ref qt, .ref qp, .ref qb], aN (eY E) qt 30 To, aO (eY E) qp 30 Tp, aO (eY E) qb 30 Bl]) (ty := .int) C iX5 tyX5_ok nmX5 0 rfl rfl 0 (by decide) (C.1.2.2.2.2 (.fieldLink RX5 9 "StackRuns$Stand" "control" "I") (List.mem_of_getElem? (i := 2) rfl)) rfl (by decide +kernel) rfl rfl (Nat.le_of_ble_eq_true rfl) dX5_change_57 60 rfl rfl ?_
      have e_1 : (chH h (Tp r) (Bl r)) = (h - 1) := by first | (simp [chH, *]; done) | (simp [chH, *]; omega) | simp [chS, *]
      have e_2 : (chS Sg h (Tp r) (Bl r)) = Sg := by first | (simp [chH, *]; done) | (simp [chH, *]; omega) | simp [chS, *]
      refine go_eq rfl (st' := []) (ws' := [ob g0 5 [.int (nI (To r)), .int (nI (chH h (Tp r) (Bl r))), .ref qs], aN (eY E) qs 60 (chS Sg h (Tp r) (Bl r)), ob h0 4 [.int (nI n), .int (nI m), .int (nI z), .int (nI st), .ref qh, .ref qt, .ref qp, .ref qb], aN (eY E) qt 30 To, aO (eY E) qp 30 Tp, aO (eY E) qb 30 Bl]) (by first | rfl | (simp only [e_1, e_2, oI_s, oI_0]; first | done | rfl)) (by first | rfl | (simp only [e_1, e_2, oI_s, oI_0]; first | done | rfl)) ?_
      exact hret _ _ dX5_change_60
    · intro h37
      refine g_aload_n C dX5_change_40 rfl 41 rfl 0 rfl ?_
      refine g_aload_n C dX5_change_41 rfl 42 rfl 1 rfl ?_
      refine g_getN C iX4 2 rfl rfl 6 (by decide) (nf_RX5_35 C.2.2.1 _) rfl dX5_change_42 45 rfl ?_
      refine g_iload_n C dX5_change_45 rfl 46 rfl 2 rfl ?_
      refine g_iald (i := r) C 4 rfl (by omega) (by decide) dX5_change_46 47 rfl ?_
      refine go_eq rfl (st' := [.int (nI ((Tp r) - 1)), .ref g0]) (ws' := [ob g0 5 [.int (nI c), .int (nI (h - 1)), .ref qs], aN (eY E) qs 60 Sg, ob h0 4 [.int (nI n), .int (nI m), .int (nI z), .int (nI st), .ref qh, .ref qt, .ref qp, .ref qb], aN (eY E) qt 30 To, aO (eY E) qp 30 Tp, aO (eY E) qb 30 Bl]) (by rw [oI_pos (a := (Tp r)) (by omega)]) (by rfl) ?_
      refine g_cVv (ws2 := [ob g0 5 [.int (nI c), .int (nI ((h - 1) + 1)), .ref qs], aN (eY E) qs 60 (up Sg (h - 1) ((Tp r) - 1)), ob h0 4 [.int (nI n), .int (nI m), .int (nI z), .int (nI st), .ref qh, .ref qt, .ref qp, .ref qb], aN (eY E) qt 30 To, aO (eY E) qp 30 Tp, aO (eY E) qb 30 Bl]) (As := [.int (nI ((Tp r) - 1))]) (st := []) (wsc := [ob g0 5 [.int (nI c), .int (nI (h - 1)), .ref qs], aN (eY E) qs 60 Sg]) (wr := [ob h0 4 [.int (nI n), .int (nI m), .int (nI z), .int (nI st), .ref qh, .ref qt, .ref qp, .ref qb], aN (eY E) qt 30 To, aO (eY E) qp 30 Tp, aO (eY E) qb 30 Bl]) C (c_X5_cover (eL E) (eD E) (eY E) g0 c (h - 1) qs Sg ((Tp r) - 1) (by omega)) 1 gX5_change_X5_cover rfl (by decide +kernel) (by decide) ⟨Nat.zero_le _, Nat.zero_le _⟩ rfl 0 rfl rfl rfl (Nat.le_of_ble_eq_true rfl) [0, 1] [2, 3, 4, 5] [4, 5, 0, 1, 2, 3] rfl rfl (by decide) (by decide) rfl (by decide) dX5_change_47 50 rfl ?_
      refine g_aload_n C dX5_change_50 rfl 51 rfl 0 rfl ?_
      refine g_aload_n C dX5_change_51 rfl 52 rfl 1 rfl ?_
      refine g_getN C iX4 2 rfl rfl 5 (by decide) (nf_RX5_38 C.2.2.1 _) rfl dX5_change_52 55 rfl ?_
      refine g_iload_n C dX5_change_55 rfl 56 rfl 2 rfl ?_
      refine g_iald (i := r) C 3 rfl (by omega) (by decide) dX5_change_56 57 rfl ?_
      refine g_put (ws' := [ob g0 5 [.int (nI (To r)), .int (nI ((h - 1) + 1)), .ref qs], aN (eY E) qs 60 (up Sg (h - 1) ((Tp r) - 1)), ob h0 4 [.int (nI n), .int (nI m), .int (nI z), .int (nI st), .ref qh, .ref qt, .ref qp, .ref qb], aN (eY E) qt 30 To, aO (eY E) qp 30 Tp, aO (eY E) qb 30 Bl]) (ty := .int) C iX5 tyX5_ok nmX5 0 rfl rfl 0 (by decide) (C.1.2.2.2.2 (.fieldLink RX5 9 "StackRuns$Stand" "control" "I") (List.mem_of_getElem? (i := 2) rfl)) rfl (by decide +kernel) rfl rfl (Nat.le_of_ble_eq_true rfl) dX5_change_57 60 rfl rfl ?_
      have e_3 : (chH h (Tp r) (Bl r)) = ((h - 1) + 1) := by first | (simp [chH, *]; done) | (simp [chH, *]; omega) | simp [chS, *]
      have e_4 : (chS Sg h (Tp r) (Bl r)) = (up Sg (h - 1) ((Tp r) - 1)) := by first | (simp [chH, *]; done) | (simp [chH, *]; omega) | simp [chS, *]
      refine go_eq rfl (st' := []) (ws' := [ob g0 5 [.int (nI (To r)), .int (nI (chH h (Tp r) (Bl r))), .ref qs], aN (eY E) qs 60 (chS Sg h (Tp r) (Bl r)), ob h0 4 [.int (nI n), .int (nI m), .int (nI z), .int (nI st), .ref qh, .ref qt, .ref qp, .ref qb], aN (eY E) qt 30 To, aO (eY E) qp 30 Tp, aO (eY E) qb 30 Bl]) (by first | rfl | (simp only [e_3, e_4, oI_s, oI_0]; first | done | rfl)) (by first | rfl | (simp only [e_3, e_4, oI_s, oI_0]; first | done | rfl)) ?_
      exact hret _ _ dX5_change_60
  · intro h17
    refine g_aload_n C dX5_change_20 rfl 21 rfl 0 rfl ?_
    refine g_aload_n C dX5_change_21 rfl 22 rfl 1 rfl ?_
    refine g_getN C iX4 2 rfl rfl 7 (by decide) (nf_RX5_26 C.2.2.1 _) rfl dX5_change_22 25 rfl ?_
    refine g_iload_n C dX5_change_25 rfl 26 rfl 2 rfl ?_
    refine g_iald (i := r) C 5 rfl (by omega) (by decide) dX5_change_26 27 rfl ?_
    refine go_eq rfl (st' := [.int (nI ((Bl r) - 1)), .ref g0]) (ws' := [ob g0 5 [.int (nI c), .int (nI (h - 1)), .ref qs], aN (eY E) qs 60 Sg, ob h0 4 [.int (nI n), .int (nI m), .int (nI z), .int (nI st), .ref qh, .ref qt, .ref qp, .ref qb], aN (eY E) qt 30 To, aO (eY E) qp 30 Tp, aO (eY E) qb 30 Bl]) (by rw [oI_pos (a := (Bl r)) (by omega)]) (by rfl) ?_
    refine g_cVv (ws2 := [ob g0 5 [.int (nI c), .int (nI ((h - 1) + 1)), .ref qs], aN (eY E) qs 60 (up Sg (h - 1) ((Bl r) - 1)), ob h0 4 [.int (nI n), .int (nI m), .int (nI z), .int (nI st), .ref qh, .ref qt, .ref qp, .ref qb], aN (eY E) qt 30 To, aO (eY E) qp 30 Tp, aO (eY E) qb 30 Bl]) (As := [.int (nI ((Bl r) - 1))]) (st := []) (wsc := [ob g0 5 [.int (nI c), .int (nI (h - 1)), .ref qs], aN (eY E) qs 60 Sg]) (wr := [ob h0 4 [.int (nI n), .int (nI m), .int (nI z), .int (nI st), .ref qh, .ref qt, .ref qp, .ref qb], aN (eY E) qt 30 To, aO (eY E) qp 30 Tp, aO (eY E) qb 30 Bl]) C (c_X5_cover (eL E) (eD E) (eY E) g0 c (h - 1) qs Sg ((Bl r) - 1) (by omega)) 1 gX5_change_X5_cover rfl (by decide +kernel) (by decide) ⟨Nat.zero_le _, Nat.zero_le _⟩ rfl 0 rfl rfl rfl (Nat.le_of_ble_eq_true rfl) [0, 1] [2, 3, 4, 5] [4, 5, 0, 1, 2, 3] rfl rfl (by decide) (by decide) rfl (by decide) dX5_change_27 30 rfl ?_
    refine g_aload_n C dX5_change_30 rfl 31 rfl 1 rfl ?_
    refine g_getN C iX4 2 rfl rfl 6 (by decide) (nf_RX5_35 C.2.2.1 _) rfl dX5_change_31 34 rfl ?_
    refine g_iload_n C dX5_change_34 rfl 35 rfl 2 rfl ?_
    refine g_iald (i := r) C 4 rfl (by omega) (by decide) dX5_change_35 36 rfl ?_
    refine g_iconst (v := (-1)) C dX5_change_36 (by decide) 37 rfl ?_
    refine g_icmp_eq (X := Tp r = 0) C dX5_change_37 50 (by decide) 40 rfl (oI_eq (by omega)) ?_ ?_
    · intro h37
      refine g_aload_n C dX5_change_50 rfl 51 rfl 0 rfl ?_
      refine g_aload_n C dX5_change_51 rfl 52 rfl 1 rfl ?_
      refine g_getN C iX4 2 rfl rfl 5 (by decide) (nf_RX5_38 C.2.2.1 _) rfl dX5_change_52 55 rfl ?_
      refine g_iload_n C dX5_change_55 rfl 56 rfl 2 rfl ?_
      refine g_iald (i := r) C 3 rfl (by omega) (by decide) dX5_change_56 57 rfl ?_
      refine g_put (ws' := [ob g0 5 [.int (nI (To r)), .int (nI ((h - 1) + 1)), .ref qs], aN (eY E) qs 60 (up Sg (h - 1) ((Bl r) - 1)), ob h0 4 [.int (nI n), .int (nI m), .int (nI z), .int (nI st), .ref qh, .ref qt, .ref qp, .ref qb], aN (eY E) qt 30 To, aO (eY E) qp 30 Tp, aO (eY E) qb 30 Bl]) (ty := .int) C iX5 tyX5_ok nmX5 0 rfl rfl 0 (by decide) (C.1.2.2.2.2 (.fieldLink RX5 9 "StackRuns$Stand" "control" "I") (List.mem_of_getElem? (i := 2) rfl)) rfl (by decide +kernel) rfl rfl (Nat.le_of_ble_eq_true rfl) dX5_change_57 60 rfl rfl ?_
      have e_5 : (chH h (Tp r) (Bl r)) = ((h - 1) + 1) := by first | (simp [chH, *]; done) | (simp [chH, *]; omega) | simp [chS, *]
      have e_6 : (chS Sg h (Tp r) (Bl r)) = (up Sg (h - 1) ((Bl r) - 1)) := by first | (simp [chH, *]; done) | (simp [chH, *]; omega) | simp [chS, *]
      refine go_eq rfl (st' := []) (ws' := [ob g0 5 [.int (nI (To r)), .int (nI (chH h (Tp r) (Bl r))), .ref qs], aN (eY E) qs 60 (chS Sg h (Tp r) (Bl r)), ob h0 4 [.int (nI n), .int (nI m), .int (nI z), .int (nI st), .ref qh, .ref qt, .ref qp, .ref qb], aN (eY E) qt 30 To, aO (eY E) qp 30 Tp, aO (eY E) qb 30 Bl]) (by first | rfl | (simp only [e_5, e_6, oI_s, oI_0]; first | done | rfl)) (by first | rfl | (simp only [e_5, e_6, oI_s, oI_0]; first | done | rfl)) ?_
      exact hret _ _ dX5_change_60
    · intro h37
      refine g_aload_n C dX5_change_40 rfl 41 rfl 0 rfl ?_
      refine g_aload_n C dX5_change_41 rfl 42 rfl 1 rfl ?_
      refine g_getN C iX4 2 rfl rfl 6 (by decide) (nf_RX5_35 C.2.2.1 _) rfl dX5_change_42 45 rfl ?_
      refine g_iload_n C dX5_change_45 rfl 46 rfl 2 rfl ?_
      refine g_iald (i := r) C 4 rfl (by omega) (by decide) dX5_change_46 47 rfl ?_
      refine go_eq rfl (st' := [.int (nI ((Tp r) - 1)), .ref g0]) (ws' := [ob g0 5 [.int (nI c), .int (nI ((h - 1) + 1)), .ref qs], aN (eY E) qs 60 (up Sg (h - 1) ((Bl r) - 1)), ob h0 4 [.int (nI n), .int (nI m), .int (nI z), .int (nI st), .ref qh, .ref qt, .ref qp, .ref qb], aN (eY E) qt 30 To, aO (eY E) qp 30 Tp, aO (eY E) qb 30 Bl]) (by rw [oI_pos (a := (Tp r)) (by omega)]) (by rfl) ?_
      refine g_cVv (ws2 := [ob g0 5 [.int (nI c), .int (nI (((h - 1) + 1) + 1)), .ref qs], aN (eY E) qs 60 (up (up Sg (h - 1) ((Bl r) - 1)) ((h - 1) + 1) ((Tp r) - 1)), ob h0 4 [.int (nI n), .int (nI m), .int (nI z), .int (nI st), .ref qh, .ref qt, .ref qp, .ref qb], aN (eY E) qt 30 To, aO (eY E) qp 30 Tp, aO (eY E) qb 30 Bl]) (As := [.int (nI ((Tp r) - 1))]) (st := []) (wsc := [ob g0 5 [.int (nI c), .int (nI ((h - 1) + 1)), .ref qs], aN (eY E) qs 60 (up Sg (h - 1) ((Bl r) - 1))]) (wr := [ob h0 4 [.int (nI n), .int (nI m), .int (nI z), .int (nI st), .ref qh, .ref qt, .ref qp, .ref qb], aN (eY E) qt 30 To, aO (eY E) qp 30 Tp, aO (eY E) qb 30 Bl]) C (c_X5_cover (eL E) (eD E) (eY E) g0 c ((h - 1) + 1) qs (up Sg (h - 1) ((Bl r) - 1)) ((Tp r) - 1) (by omega)) 1 gX5_change_X5_cover rfl (by decide +kernel) (by decide) ⟨Nat.zero_le _, Nat.zero_le _⟩ rfl 0 rfl rfl rfl (Nat.le_of_ble_eq_true rfl) [0, 1] [2, 3, 4, 5] [4, 5, 0, 1, 2, 3] rfl rfl (by decide) (by decide) rfl (by decide) dX5_change_47 50 rfl ?_
      refine g_aload_n C dX5_change_50 rfl 51 rfl 0 rfl ?_
      refine g_aload_n C dX5_change_51 rfl 52 rfl 1 rfl ?_
      refine g_getN C iX4 2 rfl rfl 5 (by decide) (nf_RX5_38 C.2.2.1 _) rfl dX5_change_52 55 rfl ?_
      refine g_iload_n C dX5_change_55 rfl 56 rfl 2 rfl ?_
      refine g_iald (i := r) C 3 rfl (by omega) (by decide) dX5_change_56 57 rfl ?_
      refine g_put (ws' := [ob g0 5 [.int (nI (To r)), .int (nI (((h - 1) + 1) + 1)), .ref qs], aN (eY E) qs 60 (up (up Sg (h - 1) ((Bl r) - 1)) ((h - 1) + 1) ((Tp r) - 1)), ob h0 4 [.int (nI n), .int (nI m), .int (nI z), .int (nI st), .ref qh, .ref qt, .ref qp, .ref qb], aN (eY E) qt 30 To, aO (eY E) qp 30 Tp, aO (eY E) qb 30 Bl]) (ty := .int) C iX5 tyX5_ok nmX5 0 rfl rfl 0 (by decide) (C.1.2.2.2.2 (.fieldLink RX5 9 "StackRuns$Stand" "control" "I") (List.mem_of_getElem? (i := 2) rfl)) rfl (by decide +kernel) rfl rfl (Nat.le_of_ble_eq_true rfl) dX5_change_57 60 rfl rfl ?_
      have e_7 : (chH h (Tp r) (Bl r)) = (((h - 1) + 1) + 1) := by first | (simp [chH, *]; done) | (simp [chH, *]; omega) | simp [chS, *]
      have e_8 : (chS Sg h (Tp r) (Bl r)) = (up (up Sg (h - 1) ((Bl r) - 1)) ((h - 1) + 1) ((Tp r) - 1)) := by first | (simp [chH, *]; done) | (simp [chH, *]; omega) | simp [chS, *]
      refine go_eq rfl (st' := []) (ws' := [ob g0 5 [.int (nI (To r)), .int (nI (chH h (Tp r) (Bl r))), .ref qs], aN (eY E) qs 60 (chS Sg h (Tp r) (Bl r)), ob h0 4 [.int (nI n), .int (nI m), .int (nI z), .int (nI st), .ref qh, .ref qt, .ref qp, .ref qb], aN (eY E) qt 30 To, aO (eY E) qp 30 Tp, aO (eY E) qb 30 Bl]) (by first | rfl | (simp only [e_7, e_8, oI_s, oI_0]; first | done | rfl)) (by first | rfl | (simp only [e_7, e_8, oI_s, oI_0]; first | done | rfl)) ?_
      exact hret _ _ dX5_change_60
end
section
set_option maxHeartbeats 4000000 in
set_option maxRecDepth 100000 in
theorem c_X3_lower (l : Launch) (D : va_G) (cy : Nat → ClassId) (k0 : Nat) (ql : Nat) (sn : Nat) (Cv : Nat → Nat) (i : Nat) (v : Nat) (hC : okf Cv) (hi : i < 125) (hv : v ≤ 1000000000000000 ∨ v = 9000000000000000000) : CoI l yX3_lower wsX3_lower 0 0 D cy [ob k0 3 [.ref ql, .int (oI sn)], aL cy ql 125 Cv] [.ref k0, .int (nI i), .long (lN v)] [ob k0 3 [.ref ql, .int (oI sn)], aL cy ql 125 (lowC Cv i v)] (bI (lowB Cv i v)) := by
  refine met_z (cc := cX3_lower) (maxL := 4) (own := RX3) (lv := [(0, .ref k0), (1, .int (nI i)), (2, .long (lN v))]) (by decide) rfl rfl rfl (Nat.le_of_ble_eq_true rfl) (fun E e1 e2 e3 C hret => ?_)
  subst e1; subst e2; subst e3
  have iX3 : ∀ w ∈ wsX30, w ∈ wsX3_lower := fun _ h => List.mem_cons_of_mem _ (List.mem_append_right _ h)
  have hC1 := hC i
  refine g_lload_n C dX3_lower_0 rfl 1 rfl 2 rfl ?_
  refine g_aload_n C dX3_lower_1 rfl 2 rfl 0 rfl ?_
  refine g_get C iX3 0 rfl rfl 0 (by decide) (C.1.2.2.2.2 (.fieldLink RX3 9 "StackRuns$Pops" "least" "[J") (List.mem_of_getElem? (i := 1) rfl)) rfl dX3_lower_2 5 rfl ?_
  refine g_iload_n C dX3_lower_5 rfl 6 rfl 1 rfl ?_
  refine g_lald (i := i) C 1 rfl (by omega) (by decide) dX3_lower_6 7 rfl ?_
  refine g_lcmp_lt (X := v < Cv i) C dX3_lower_7 rfl dX3_lower_8 13 (by decide) 11 rfl (pk_lLT (by omega) (by omega)) ?_ ?_
  · intro h7
    refine g_aload_n C dX3_lower_13 rfl 14 rfl 0 rfl ?_
    refine g_get C iX3 0 rfl rfl 0 (by decide) (C.1.2.2.2.2 (.fieldLink RX3 9 "StackRuns$Pops" "least" "[J") (List.mem_of_getElem? (i := 1) rfl)) rfl dX3_lower_14 17 rfl ?_
    refine g_iload_n C dX3_lower_17 rfl 18 rfl 1 rfl ?_
    refine g_lload_n C dX3_lower_18 rfl 19 rfl 2 rfl ?_
    refine g_last (ws' := [ob k0 3 [.ref ql, .int (oI sn)], aL (eY E) ql 125 (up Cv i v)]) (i := i) C 1 rfl (by omega) (by decide) dX3_lower_19 20 rfl (upd_L _ _ _) rfl ?_
    refine g_iconst (v := nI 1) C dX3_lower_20 (by decide) 21 rfl ?_
    have e_1 : (lowB Cv i v) = true := by simp [lowC, lowB, *]
    have e_2 : (lowC Cv i v) = (up Cv i v) := by simp [lowC, lowB, *]
    refine go_eq rfl (st' := [.int (bI (lowB Cv i v))]) (ws' := [ob k0 3 [.ref ql, .int (oI sn)], aL (eY E) ql 125 (lowC Cv i v)]) (by first | rfl | (simp only [e_1, e_2, oI_s, oI_0]; first | done | rfl)) (by first | rfl | (simp only [e_1, e_2, oI_s, oI_0]; first | done | rfl)) ?_
    exact hret _ _ dX3_lower_21
  · intro h7
    refine g_iconst (v := nI 0) C dX3_lower_11 (by decide) 12 rfl ?_
    have e_3 : (lowB Cv i v) = false := by simp [lowC, lowB, *]
    have e_4 : (lowC Cv i v) = Cv := by simp [lowC, lowB, *]
    refine go_eq rfl (st' := [.int (bI (lowB Cv i v))]) (ws' := [ob k0 3 [.ref ql, .int (oI sn)], aL (eY E) ql 125 (lowC Cv i v)]) (by first | rfl | (simp only [e_3, e_4, oI_s, oI_0]; first | done | rfl)) (by first | rfl | (simp only [e_3, e_4, oI_s, oI_0]; first | done | rfl)) ?_
    exact hret _ _ dX3_lower_12
set_option maxHeartbeats 4000000 in
set_option maxRecDepth 100000 in
theorem c_X3_lowerRow (l : Launch) (D : va_G) (cy : Nat → ClassId) (k0 : Nat) (ql : Nat) (sn : Nat) (Cv : Nat → Nat) (h0 : Nat) (n : Nat) (m : Nat) (z : Nat) (st : Nat) (qh : Nat) (qt : Nat) (qp : Nat) (qb : Nat) (base : Nat) (f : Nat) (nx : Nat) (hC : okf Cv) (hn : n ≤ 5) (hb : base + 5 ≤ 125) (hf : f ≤ 1000000000000000 ∨ f = 9000000000000000000) (hx : nx < 25) : CoI l yX3_lowerRow wsX3_lowerRow 2 46 D cy [ob k0 3 [.ref ql, .int (oI sn)], aL cy ql 125 Cv, ob h0 4 [.int (nI n), .int (nI m), .int (nI z), .int (nI st), .ref qh, .ref qt, .ref qp, .ref qb]] [.ref k0, .ref h0, .int (nI base), .long (lN f), .int (nI nx)] [ob k0 3 [.ref ql, .int (oI sn)], aL cy ql 125 (prC Cv base f nx n), ob h0 4 [.int (nI n), .int (nI m), .int (nI z), .int (nI st), .ref qh, .ref qt, .ref qp, .ref qb]] (bI (prB Cv base f nx n)) := by
  refine met_z (cc := cX3_lowerRow) (maxL := 8) (own := RX3) (lv := [(0, .ref k0), (1, .ref h0), (2, .int (nI base)), (3, .long (lN f)), (5, .int (nI nx))]) (by decide) rfl rfl rfl (Nat.le_of_ble_eq_true rfl) (fun E e1 e2 e3 C hret => ?_)
  subst e1; subst e2; subst e3
  have iX3 : ∀ w ∈ wsX30, w ∈ wsX3_lowerRow := fun _ h => List.mem_cons_of_mem _ (List.mem_append_right _ h)
  have iX4 : ∀ w ∈ wsX40, w ∈ wsX3_lowerRow := fun _ h => List.mem_cons_of_mem _ (List.mem_append_left _ (List.mem_append_right _ h))
  refine g_iconst (v := nI 0) C dX3_lowerRow_0 (by decide) 1 rfl ?_
  refine g_istore (lv' := [(6, .int (nI 0)), (0, .ref k0), (1, .ref h0), (2, .int (nI base)), (3, .long (lN f)), (5, .int (nI nx))]) C dX3_lowerRow_1 3 rfl (by decide) rfl ?_
  refine g_iconst (v := nI 0) C dX3_lowerRow_3 (by decide) 4 rfl ?_
  refine g_istore (lv' := [(7, .int (nI 0)), (6, .int (nI 0)), (0, .ref k0), (1, .ref h0), (2, .int (nI base)), (3, .long (lN f)), (5, .int (nI nx))]) C dX3_lowerRow_4 6 rfl (by decide) rfl ?_
  have L6 : ∀ x, x ≤ n → Go E 0 0 6 [(7, .int (nI x)), (6, .int (bI (prB Cv base f nx x))), (0, .ref k0), (1, .ref h0), (2, .int (nI base)), (3, .long (lN f)), (5, .int (nI nx))] [] [ob k0 3 [.ref ql, .int (oI sn)], aL (eY E) ql 125 (prC Cv base f nx x), ob h0 4 [.int (nI n), .int (nI m), .int (nI z), .int (nI st), .ref qh, .ref qt, .ref qp, .ref qb]] := by
    refine go_for n (fun x => Go E 0 0 6 [(7, .int (nI x)), (6, .int (bI (prB Cv base f nx x))), (0, .ref k0), (1, .ref h0), (2, .int (nI base)), (3, .long (lN f)), (5, .int (nI nx))] [] [ob k0 3 [.ref ql, .int (oI sn)], aL (eY E) ql 125 (prC Cv base f nx x), ob h0 4 [.int (nI n), .int (nI m), .int (nI z), .int (nI st), .ref qh, .ref qt, .ref qp, .ref qb]]) (fun x hi_x ih_x => ?_)
    have hX := prC_ok hC base f nx x
    refine g_iload C dX3_lowerRow_6 8 rfl 0 rfl ?_
    refine g_aload_n C dX3_lowerRow_8 rfl 9 rfl 3 rfl ?_
    refine g_getN C iX4 2 rfl rfl 0 (by decide) (nf_RX3_57 C.2.2.1 _) rfl dX3_lowerRow_9 12 rfl ?_
    refine g_icmp_ge (X := n ≤ x) C dX3_lowerRow_12 60 (by decide) 15 rfl (nI_leI (by omega) (by omega)) ?_ ?_
    · intro h12
      have x_x : x = n := by omega
      try rw [x_x]
      refine g_iload C dX3_lowerRow_60 62 rfl 1 rfl ?_
      exact hret _ _ dX3_lowerRow_62
    · intro h12
      refine g_aload_n C dX3_lowerRow_15 rfl 16 rfl 2 rfl ?_
      refine g_iload_n C dX3_lowerRow_16 rfl 17 rfl 4 rfl ?_
      refine g_iload C dX3_lowerRow_17 19 rfl 0 rfl ?_
      refine g_iadd (z := nI (base + x)) C dX3_lowerRow_19 20 rfl (nI_add _ _) ?_
      refine g_lload_n C dX3_lowerRow_20 rfl 21 rfl 5 rfl ?_
      refine g_aload_n C dX3_lowerRow_21 rfl 22 rfl 2 rfl ?_
      refine g_get C iX3 0 rfl rfl 0 (by decide) (C.1.2.2.2.2 (.fieldLink RX3 9 "StackRuns$Pops" "least" "[J") (List.mem_of_getElem? (i := 1) rfl)) rfl dX3_lowerRow_22 25 rfl ?_
      refine g_iload C dX3_lowerRow_25 27 rfl 6 rfl ?_
      refine g_iconst (v := nI 5) C dX3_lowerRow_27 (by decide) 28 rfl ?_
      refine g_imul (z := nI (nx * 5)) C dX3_lowerRow_28 29 rfl (pk_mul _ _) ?_
      refine g_iload C dX3_lowerRow_29 31 rfl 0 rfl ?_
      refine g_iadd (z := nI ((nx * 5) + x)) C dX3_lowerRow_31 32 rfl (nI_add _ _) ?_
      refine g_lald (i := ((nx * 5) + x)) C 1 rfl (by omega) (by decide) dX3_lowerRow_32 33 rfl ?_
      refine g_cSNl (ws2 := [ob k0 3 [.ref ql, .int (oI sn)], aL (eY E) ql 125 (prC Cv base f nx x), ob h0 4 [.int (nI n), .int (nI m), .int (nI z), .int (nI st), .ref qh, .ref qt, .ref qp, .ref qb]]) (As := [.long (lN f), .long (lN ((prC Cv base f nx x) ((nx * 5) + x)))]) (st := [.int (nI (base + x)), .ref k0]) (wsc := []) (wr := [ob k0 3 [.ref ql, .int (oI sn)], aL (eY E) ql 125 (prC Cv base f nx x), ob h0 4 [.int (nI n), .int (nI m), .int (nI z), .int (nI st), .ref qh, .ref qt, .ref qp, .ref qb]]) C (c_X6_sum (eL E) (eD E) (eY E) f ((prC Cv base f nx x) ((nx * 5) + x)) (by exact hf) (by exact hX _)) 2 ggX3_lowerRow_X6_sum (nm_RX3_60 C.2.2.1) (List.mem_of_getElem? (i := 3) rfl) (List.mem_of_getElem? (i := 2) rfl) rfl (by decide +kernel) (by decide) ⟨Nat.zero_le _, Nat.zero_le _⟩ rfl rfl (Nat.le_of_ble_eq_true rfl) [] [0, 1, 2] [0, 1, 2] rfl rfl (by decide) (by decide) rfl (by decide) dX3_lowerRow_33 36 rfl ?_
      refine g_cVi (ws2 := [ob k0 3 [.ref ql, .int (oI sn)], aL (eY E) ql 125 (lowC (prC Cv base f nx x) (base + x) (sm f ((prC Cv base f nx x) ((nx * 5) + x)))), ob h0 4 [.int (nI n), .int (nI m), .int (nI z), .int (nI st), .ref qh, .ref qt, .ref qp, .ref qb]]) (As := [.int (nI (base + x)), .long (lN (sm f ((prC Cv base f nx x) ((nx * 5) + x))))]) (st := []) (wsc := [ob k0 3 [.ref ql, .int (oI sn)], aL (eY E) ql 125 (prC Cv base f nx x)]) (wr := [ob h0 4 [.int (nI n), .int (nI m), .int (nI z), .int (nI st), .ref qh, .ref qt, .ref qp, .ref qb]]) C (c_X3_lower (eL E) (eD E) (eY E) k0 ql sn (prC Cv base f nx x) (base + x) (sm f ((prC Cv base f nx x) ((nx * 5) + x))) (by first | assumption | exact prC_ok (by assumption) _ _ _ _ | exact pbC_ok (by assumption) _ _ _ _ | exact rdC_ok (by assumption) _ | exact itC_ok _) (by omega) (by first | exact sm_ok _ _ | omega)) 2 gX3_lowerRow_X3_lower rfl (by decide +kernel) (by decide) ⟨Nat.zero_le _, Nat.zero_le _⟩ rfl 0 rfl rfl rfl (Nat.le_of_ble_eq_true rfl) [0, 1] [2] [1, 2, 0] rfl rfl (by decide) (by decide) rfl (by decide) dX3_lowerRow_36 39 rfl ?_
      refine g_if_ne (X := lowB (prC Cv base f nx x) (base + x) (sm f ((prC Cv base f nx x) ((nx * 5) + x))) = true) C dX3_lowerRow_39 47 (by decide) 42 rfl (bI_ne0 _) ?_ ?_
      · intro h39
        refine g_iconst (v := nI 1) C dX3_lowerRow_47 (by decide) 48 rfl ?_
        refine g_goto C dX3_lowerRow_48 52 (by decide) ?_
        refine g_istore (lv' := [(6, .int (nI 1)), (7, .int (nI x)), (0, .ref k0), (1, .ref h0), (2, .int (nI base)), (3, .long (lN f)), (5, .int (nI nx))]) C dX3_lowerRow_52 54 rfl (by decide) rfl ?_
        refine g_iinc (lv' := [(7, .int (nI (x + 1))), (6, .int (nI 1)), (0, .ref k0), (1, .ref h0), (2, .int (nI base)), (3, .long (lN f)), (5, .int (nI nx))]) C dX3_lowerRow_54 57 rfl 1 rfl (by decide) rfl ?_
        refine g_goto C dX3_lowerRow_57 6 (by decide) ?_
        have e_1 : (prB Cv base f nx (x + 1)) = true := by simp [prC, prB, *]
        have e_2 : (prC Cv base f nx (x + 1)) = (lowC (prC Cv base f nx x) (base + x) (sm f ((prC Cv base f nx x) ((nx * 5) + x)))) := by simp [prC, prB, *]
        refine go_eq (lv' := [(7, .int (nI (x + 1))), (6, .int (bI (prB Cv base f nx (x + 1)))), (0, .ref k0), (1, .ref h0), (2, .int (nI base)), (3, .long (lN f)), (5, .int (nI nx))]) (ws' := [ob k0 3 [.ref ql, .int (oI sn)], aL (eY E) ql 125 (prC Cv base f nx (x + 1)), ob h0 4 [.int (nI n), .int (nI m), .int (nI z), .int (nI st), .ref qh, .ref qt, .ref qp, .ref qb]]) (by first | rfl | (simp only [e_1, e_2, oI_s, oI_0]; first | done | rfl)) rfl (by first | rfl | (simp only [e_1, e_2, oI_s, oI_0]; first | done | rfl)) ?_
        exact ih_x (by omega)
      · intro h39
        have h39 : lowB (prC Cv base f nx x) (base + x) (sm f ((prC Cv base f nx x) ((nx * 5) + x))) = false := by simpa using h39
        refine g_iload C dX3_lowerRow_42 44 rfl 1 rfl ?_
        refine g_if_eq (X := prB Cv base f nx x = false) C dX3_lowerRow_44 51 (by decide) 47 rfl (bI_eq0 _) ?_ ?_
        · intro h44
          refine g_iconst (v := nI 0) C dX3_lowerRow_51 (by decide) 52 rfl ?_
          refine g_istore (lv' := [(6, .int (nI 0)), (7, .int (nI x)), (0, .ref k0), (1, .ref h0), (2, .int (nI base)), (3, .long (lN f)), (5, .int (nI nx))]) C dX3_lowerRow_52 54 rfl (by decide) rfl ?_
          refine g_iinc (lv' := [(7, .int (nI (x + 1))), (6, .int (nI 0)), (0, .ref k0), (1, .ref h0), (2, .int (nI base)), (3, .long (lN f)), (5, .int (nI nx))]) C dX3_lowerRow_54 57 rfl 1 rfl (by decide) rfl ?_
          refine g_goto C dX3_lowerRow_57 6 (by decide) ?_
          have e_3 : (prB Cv base f nx (x + 1)) = false := by simp [prC, prB, *]
          have e_4 : (prC Cv base f nx (x + 1)) = (lowC (prC Cv base f nx x) (base + x) (sm f ((prC Cv base f nx x) ((nx * 5) + x)))) := by simp [prC, prB, *]
          refine go_eq (lv' := [(7, .int (nI (x + 1))), (6, .int (bI (prB Cv base f nx (x + 1)))), (0, .ref k0), (1, .ref h0), (2, .int (nI base)), (3, .long (lN f)), (5, .int (nI nx))]) (ws' := [ob k0 3 [.ref ql, .int (oI sn)], aL (eY E) ql 125 (prC Cv base f nx (x + 1)), ob h0 4 [.int (nI n), .int (nI m), .int (nI z), .int (nI st), .ref qh, .ref qt, .ref qp, .ref qb]]) (by first | rfl | (simp only [e_3, e_4, oI_s, oI_0]; first | done | rfl)) rfl (by first | rfl | (simp only [e_3, e_4, oI_s, oI_0]; first | done | rfl)) ?_
          exact ih_x (by omega)
        · intro h44
          have h44 : prB Cv base f nx x = true := by simpa using h44
          refine g_iconst (v := nI 1) C dX3_lowerRow_47 (by decide) 48 rfl ?_
          refine g_goto C dX3_lowerRow_48 52 (by decide) ?_
          refine g_istore (lv' := [(6, .int (nI 1)), (7, .int (nI x)), (0, .ref k0), (1, .ref h0), (2, .int (nI base)), (3, .long (lN f)), (5, .int (nI nx))]) C dX3_lowerRow_52 54 rfl (by decide) rfl ?_
          refine g_iinc (lv' := [(7, .int (nI (x + 1))), (6, .int (nI 1)), (0, .ref k0), (1, .ref h0), (2, .int (nI base)), (3, .long (lN f)), (5, .int (nI nx))]) C dX3_lowerRow_54 57 rfl 1 rfl (by decide) rfl ?_
          refine g_goto C dX3_lowerRow_57 6 (by decide) ?_
          have e_5 : (prB Cv base f nx (x + 1)) = true := by simp [prC, prB, *]
          have e_6 : (prC Cv base f nx (x + 1)) = (lowC (prC Cv base f nx x) (base + x) (sm f ((prC Cv base f nx x) ((nx * 5) + x)))) := by simp [prC, prB, *]
          refine go_eq (lv' := [(7, .int (nI (x + 1))), (6, .int (bI (prB Cv base f nx (x + 1)))), (0, .ref k0), (1, .ref h0), (2, .int (nI base)), (3, .long (lN f)), (5, .int (nI nx))]) (ws' := [ob k0 3 [.ref ql, .int (oI sn)], aL (eY E) ql 125 (prC Cv base f nx (x + 1)), ob h0 4 [.int (nI n), .int (nI m), .int (nI z), .int (nI st), .ref qh, .ref qt, .ref qp, .ref qb]]) (by first | rfl | (simp only [e_5, e_6, oI_s, oI_0]; first | done | rfl)) rfl (by first | rfl | (simp only [e_5, e_6, oI_s, oI_0]; first | done | rfl)) ?_
          exact ih_x (by omega)
  have e_7 : (prB Cv base f nx 0) = false := by rfl
  have e_8 : (prC Cv base f nx 0) = Cv := by rfl
  refine go_eq (lv' := [(7, .int (nI 0)), (6, .int (bI (prB Cv base f nx 0))), (0, .ref k0), (1, .ref h0), (2, .int (nI base)), (3, .long (lN f)), (5, .int (nI nx))]) (ws' := [ob k0 3 [.ref ql, .int (oI sn)], aL (eY E) ql 125 (prC Cv base f nx 0), ob h0 4 [.int (nI n), .int (nI m), .int (nI z), .int (nI st), .ref qh, .ref qt, .ref qp, .ref qb]]) (by first | rfl | (simp only [e_7, e_8, oI_s, oI_0]; first | done | rfl)) rfl (by first | rfl | (simp only [e_7, e_8, oI_s, oI_0]; first | done | rfl)) ?_
  exact L6 0 (by omega)
set_option maxHeartbeats 4000000 in
set_option maxRecDepth 100000 in
theorem c_X3_lowerBy (l : Launch) (D : va_G) (cy : Nat → ClassId) (k0 : Nat) (ql : Nat) (sn : Nat) (Cv : Nat → Nat) (h0 : Nat) (n : Nat) (m : Nat) (z : Nat) (st : Nat) (qh : Nat) (qt : Nat) (qp : Nat) (qb : Nat) (Hd : Nat → Nat) (To : Nat → Nat) (Tp : Nat → Nat) (Bl : Nat → Nat) (r : Nat) (hC : okf Cv) (hru : ruOK n z Hd To Tp Bl) (hr : r < 30) : CoI l yX3_lowerBy wsX3_lowerBy 3 73 D cy [ob k0 3 [.ref ql, .int (oI sn)], aL cy ql 125 Cv, ob h0 4 [.int (nI n), .int (nI m), .int (nI z), .int (nI st), .ref qh, .ref qt, .ref qp, .ref qb], aN cy qh 30 Hd, aN cy qt 30 To, aO cy qp 30 Tp, aO cy qb 30 Bl] [.ref k0, .ref h0, .int (nI r)] [ob k0 3 [.ref ql, .int (oI sn)], aL cy ql 125 (byC n Hd To Tp Bl Cv r), ob h0 4 [.int (nI n), .int (nI m), .int (nI z), .int (nI st), .ref qh, .ref qt, .ref qp, .ref qb], aN cy qh 30 Hd, aN cy qt 30 To, aO cy qp 30 Tp, aO cy qb 30 Bl] (bI (byB n Hd To Tp Bl Cv r)) := by
  refine met_z (cc := cX3_lowerBy) (maxL := 10) (own := RX3) (lv := [(0, .ref k0), (1, .ref h0), (2, .int (nI r))]) (by decide) rfl rfl rfl (Nat.le_of_ble_eq_true rfl) (fun E e1 e2 e3 C hret => ?_)
  subst e1; subst e2; subst e3
  have iX3 : ∀ w ∈ wsX30, w ∈ wsX3_lowerBy := fun _ h => List.mem_cons_of_mem _ (List.mem_append_right _ h)
  have iX4 : ∀ w ∈ wsX40, w ∈ wsX3_lowerBy := fun _ h => List.mem_cons_of_mem _ (List.mem_append_left _ (List.mem_append_right _ h))
  obtain ⟨hn, hz, hR⟩ := hru
  have hR1 := hR r
  refine g_aload_n C dX3_lowerBy_0 rfl 1 rfl 1 rfl ?_
  refine g_getN C iX4 2 rfl rfl 4 (by decide) (nf_RX3_39 C.2.2.1 _) rfl dX3_lowerBy_1 4 rfl ?_
  refine g_iload_n C dX3_lowerBy_4 rfl 5 rfl 2 rfl ?_
  refine g_iald (i := r) C 3 rfl (by omega) (by decide) dX3_lowerBy_5 6 rfl ?_
  refine g_iconst (v := nI 5) C dX3_lowerBy_6 (by decide) 7 rfl ?_
  refine g_imul (z := nI ((Hd r) * 5)) C dX3_lowerBy_7 8 rfl (pk_mul _ _) ?_
  refine g_istore_n (lv' := [(3, .int (nI ((Hd r) * 5))), (0, .ref k0), (1, .ref h0), (2, .int (nI r))]) C dX3_lowerBy_8 rfl 9 rfl (by decide) rfl ?_
  refine g_aload_n C dX3_lowerBy_9 rfl 10 rfl 2 rfl ?_
  refine g_getN C iX4 2 rfl rfl 6 (by decide) (nf_RX3_43 C.2.2.1 _) rfl dX3_lowerBy_10 13 rfl ?_
  refine g_iload_n C dX3_lowerBy_13 rfl 14 rfl 3 rfl ?_
  refine g_iald (i := r) C 5 rfl (by omega) (by decide) dX3_lowerBy_14 15 rfl ?_
  refine g_iconst (v := (-1)) C dX3_lowerBy_15 (by decide) 16 rfl ?_
  refine g_icmp_ne (X := ¬ Tp r = 0) C dX3_lowerBy_16 33 (by decide) 19 rfl (not_congr (oI_eq (by omega))) ?_ ?_
  · intro h16
    refine g_aload_n C dX3_lowerBy_33 rfl 34 rfl 2 rfl ?_
    refine g_getN C iX4 2 rfl rfl 5 (by decide) (nf_RX3_46 C.2.2.1 _) rfl dX3_lowerBy_34 37 rfl ?_
    refine g_iload_n C dX3_lowerBy_37 rfl 38 rfl 3 rfl ?_
    refine g_iald (i := r) C 4 rfl (by omega) (by decide) dX3_lowerBy_38 39 rfl ?_
    refine g_aload_n C dX3_lowerBy_39 rfl 40 rfl 2 rfl ?_
    refine g_getN C iX4 2 rfl rfl 6 (by decide) (nf_RX3_43 C.2.2.1 _) rfl dX3_lowerBy_40 43 rfl ?_
    refine g_iload_n C dX3_lowerBy_43 rfl 44 rfl 3 rfl ?_
    refine g_iald (i := r) C 5 rfl (by omega) (by decide) dX3_lowerBy_44 45 rfl ?_
    refine go_eq rfl (st' := [.int (nI ((Tp r) - 1)), .int (nI (To r))]) (ws' := [ob k0 3 [.ref ql, .int (oI sn)], aL (eY E) ql 125 Cv, ob h0 4 [.int (nI n), .int (nI m), .int (nI z), .int (nI st), .ref qh, .ref qt, .ref qp, .ref qb], aN (eY E) qh 30 Hd, aN (eY E) qt 30 To, aO (eY E) qp 30 Tp, aO (eY E) qb 30 Bl]) (by rw [oI_pos (a := (Tp r)) (by omega)]) (by rfl) ?_
    refine g_cSNi (ws2 := [ob k0 3 [.ref ql, .int (oI sn)], aL (eY E) ql 125 Cv, ob h0 4 [.int (nI n), .int (nI m), .int (nI z), .int (nI st), .ref qh, .ref qt, .ref qp, .ref qb], aN (eY E) qh 30 Hd, aN (eY E) qt 30 To, aO (eY E) qp 30 Tp, aO (eY E) qb 30 Bl]) (As := [.int (nI (To r)), .int (nI ((Tp r) - 1))]) (st := []) (wsc := []) (wr := [ob k0 3 [.ref ql, .int (oI sn)], aL (eY E) ql 125 Cv, ob h0 4 [.int (nI n), .int (nI m), .int (nI z), .int (nI st), .ref qh, .ref qt, .ref qp, .ref qb], aN (eY E) qh 30 Hd, aN (eY E) qt 30 To, aO (eY E) qp 30 Tp, aO (eY E) qb 30 Bl]) C (c_X6_headOf (eL E) (eD E) (eY E) (To r) ((Tp r) - 1) ) 2 ggX3_lowerBy_X6_headOf (nm_RX3_53 C.2.2.1) (List.mem_of_getElem? (i := 9) rfl) (List.mem_of_getElem? (i := 8) rfl) rfl (by decide +kernel) (by decide) ⟨Nat.zero_le _, Nat.zero_le _⟩ rfl rfl (Nat.le_of_ble_eq_true rfl) [] [0, 1, 2, 3, 4, 5, 6] [0, 1, 2, 3, 4, 5, 6] rfl rfl (by decide) (by decide) rfl (by decide) dX3_lowerBy_45 48 rfl ?_
    refine g_iconst (v := nI 5) C dX3_lowerBy_48 (by decide) 49 rfl ?_
    refine g_imul (z := nI (((To r) * 5 + ((Tp r) - 1)) * 5)) C dX3_lowerBy_49 50 rfl (pk_mul _ _) ?_
    refine g_istore (lv' := [(4, .int (nI (((To r) * 5 + ((Tp r) - 1)) * 5))), (3, .int (nI ((Hd r) * 5))), (0, .ref k0), (1, .ref h0), (2, .int (nI r))]) C dX3_lowerBy_50 52 rfl (by decide) rfl ?_
    refine g_iconst (v := nI 0) C dX3_lowerBy_52 (by decide) 53 rfl ?_
    refine g_istore (lv' := [(5, .int (nI 0)), (4, .int (nI (((To r) * 5 + ((Tp r) - 1)) * 5))), (3, .int (nI ((Hd r) * 5))), (0, .ref k0), (1, .ref h0), (2, .int (nI r))]) C dX3_lowerBy_53 55 rfl (by decide) rfl ?_
    refine g_iconst (v := nI 0) C dX3_lowerBy_55 (by decide) 56 rfl ?_
    refine g_istore (lv' := [(6, .int (nI 0)), (5, .int (nI 0)), (4, .int (nI (((To r) * 5 + ((Tp r) - 1)) * 5))), (3, .int (nI ((Hd r) * 5))), (0, .ref k0), (1, .ref h0), (2, .int (nI r))]) C dX3_lowerBy_56 58 rfl (by decide) rfl ?_
    have L58 : ∀ x, x ≤ n → Go E 0 0 58 [(6, .int (nI x)), (5, .int (bI (pbB n Cv ((Hd r) * 5) ((((To r) * 5) + ((Tp r) - 1)) * 5) (Bl r) x))), (4, .int (nI (((To r) * 5 + ((Tp r) - 1)) * 5))), (3, .int (nI ((Hd r) * 5))), (0, .ref k0), (1, .ref h0), (2, .int (nI r))] [] [ob k0 3 [.ref ql, .int (oI sn)], aL (eY E) ql 125 (pbC n Cv ((Hd r) * 5) ((((To r) * 5) + ((Tp r) - 1)) * 5) (Bl r) x), ob h0 4 [.int (nI n), .int (nI m), .int (nI z), .int (nI st), .ref qh, .ref qt, .ref qp, .ref qb], aN (eY E) qh 30 Hd, aN (eY E) qt 30 To, aO (eY E) qp 30 Tp, aO (eY E) qb 30 Bl] := by
      refine go_for n (fun x => Go E 0 0 58 [(6, .int (nI x)), (5, .int (bI (pbB n Cv ((Hd r) * 5) ((((To r) * 5) + ((Tp r) - 1)) * 5) (Bl r) x))), (4, .int (nI (((To r) * 5 + ((Tp r) - 1)) * 5))), (3, .int (nI ((Hd r) * 5))), (0, .ref k0), (1, .ref h0), (2, .int (nI r))] [] [ob k0 3 [.ref ql, .int (oI sn)], aL (eY E) ql 125 (pbC n Cv ((Hd r) * 5) ((((To r) * 5) + ((Tp r) - 1)) * 5) (Bl r) x), ob h0 4 [.int (nI n), .int (nI m), .int (nI z), .int (nI st), .ref qh, .ref qt, .ref qp, .ref qb], aN (eY E) qh 30 Hd, aN (eY E) qt 30 To, aO (eY E) qp 30 Tp, aO (eY E) qb 30 Bl]) (fun x hi_x ih_x => ?_)
      have hX := pbC_ok (n := n) hC ((Hd r) * 5) ((((To r) * 5) + ((Tp r) - 1)) * 5) (Bl r) x
      refine g_iload C dX3_lowerBy_58 60 rfl 0 rfl ?_
      refine g_aload_n C dX3_lowerBy_60 rfl 61 rfl 5 rfl ?_
      refine g_getN C iX4 2 rfl rfl 0 (by decide) (nf_RX3_57 C.2.2.1 _) rfl dX3_lowerBy_61 64 rfl ?_
      refine g_icmp_ge (X := n ≤ x) C dX3_lowerBy_64 159 (by decide) 67 rfl (nI_leI (by omega) (by omega)) ?_ ?_
      · intro h64
        have x_x : x = n := by omega
        try rw [x_x]
        refine g_iload C dX3_lowerBy_159 161 rfl 1 rfl ?_
        have e_1 : (byB n Hd To Tp Bl Cv r) = (pbB n Cv ((Hd r) * 5) ((((To r) * 5) + ((Tp r) - 1)) * 5) (Bl r) n) := by simp [byC, byB, *]
        have e_2 : (byC n Hd To Tp Bl Cv r) = (pbC n Cv ((Hd r) * 5) ((((To r) * 5) + ((Tp r) - 1)) * 5) (Bl r) n) := by simp [byC, byB, *]
        refine go_eq rfl (st' := [.int (bI (byB n Hd To Tp Bl Cv r))]) (ws' := [ob k0 3 [.ref ql, .int (oI sn)], aL (eY E) ql 125 (byC n Hd To Tp Bl Cv r), ob h0 4 [.int (nI n), .int (nI m), .int (nI z), .int (nI st), .ref qh, .ref qt, .ref qp, .ref qb], aN (eY E) qh 30 Hd, aN (eY E) qt 30 To, aO (eY E) qp 30 Tp, aO (eY E) qb 30 Bl]) (by first | rfl | (simp only [e_1, e_2, oI_s, oI_0]; first | done | rfl)) (by first | rfl | (simp only [e_1, e_2, oI_s, oI_0]; first | done | rfl)) ?_
        exact hret _ _ dX3_lowerBy_161
      · intro h64
        refine g_lconst (v := lN 1) C dX3_lowerBy_67 (by decide) 68 rfl ?_
        refine g_aload_n C dX3_lowerBy_68 rfl 69 rfl 4 rfl ?_
        refine g_get C iX3 0 rfl rfl 0 (by decide) (C.1.2.2.2.2 (.fieldLink RX3 9 "StackRuns$Pops" "least" "[J") (List.mem_of_getElem? (i := 1) rfl)) rfl dX3_lowerBy_69 72 rfl ?_
        refine g_iload C dX3_lowerBy_72 74 rfl 2 rfl ?_
        refine g_iload C dX3_lowerBy_74 76 rfl 0 rfl ?_
        refine g_iadd (z := nI ((((To r) * 5 + ((Tp r) - 1)) * 5) + x)) C dX3_lowerBy_76 77 rfl (nI_add _ _) ?_
        refine g_lald (i := ((((To r) * 5 + ((Tp r) - 1)) * 5) + x)) C 1 rfl (by omega) (by decide) dX3_lowerBy_77 78 rfl ?_
        refine g_cSNl (ws2 := [ob k0 3 [.ref ql, .int (oI sn)], aL (eY E) ql 125 (pbC n Cv ((Hd r) * 5) ((((To r) * 5) + ((Tp r) - 1)) * 5) (Bl r) x), ob h0 4 [.int (nI n), .int (nI m), .int (nI z), .int (nI st), .ref qh, .ref qt, .ref qp, .ref qb], aN (eY E) qh 30 Hd, aN (eY E) qt 30 To, aO (eY E) qp 30 Tp, aO (eY E) qb 30 Bl]) (As := [.long (lN 1), .long (lN ((pbC n Cv ((Hd r) * 5) ((((To r) * 5) + ((Tp r) - 1)) * 5) (Bl r) x) ((((To r) * 5 + ((Tp r) - 1)) * 5) + x)))]) (st := []) (wsc := []) (wr := [ob k0 3 [.ref ql, .int (oI sn)], aL (eY E) ql 125 (pbC n Cv ((Hd r) * 5) ((((To r) * 5) + ((Tp r) - 1)) * 5) (Bl r) x), ob h0 4 [.int (nI n), .int (nI m), .int (nI z), .int (nI st), .ref qh, .ref qt, .ref qp, .ref qb], aN (eY E) qh 30 Hd, aN (eY E) qt 30 To, aO (eY E) qp 30 Tp, aO (eY E) qb 30 Bl]) C (c_X6_sum (eL E) (eD E) (eY E) 1 ((pbC n Cv ((Hd r) * 5) ((((To r) * 5) + ((Tp r) - 1)) * 5) (Bl r) x) ((((To r) * 5 + ((Tp r) - 1)) * 5) + x)) (by omega) (by exact hX _)) 2 ggX3_lowerBy_X6_sum (nm_RX3_60 C.2.2.1) (List.mem_of_getElem? (i := 9) rfl) (List.mem_of_getElem? (i := 11) rfl) rfl (by decide +kernel) (by decide) ⟨Nat.zero_le _, Nat.zero_le _⟩ rfl rfl (Nat.le_of_ble_eq_true rfl) [] [0, 1, 2, 3, 4, 5, 6] [0, 1, 2, 3, 4, 5, 6] rfl rfl (by decide) (by decide) rfl (by decide) dX3_lowerBy_78 81 rfl ?_
        refine g_lstore (lv' := [(7, .long (lN (sm 1 ((pbC n Cv ((Hd r) * 5) ((((To r) * 5) + ((Tp r) - 1)) * 5) (Bl r) x) ((((To r) * 5 + ((Tp r) - 1)) * 5) + x))))), (6, .int (nI x)), (5, .int (bI (pbB n Cv ((Hd r) * 5) ((((To r) * 5) + ((Tp r) - 1)) * 5) (Bl r) x))), (4, .int (nI (((To r) * 5 + ((Tp r) - 1)) * 5))), (3, .int (nI ((Hd r) * 5))), (0, .ref k0), (1, .ref h0), (2, .int (nI r))]) C dX3_lowerBy_81 83 rfl (by decide) rfl ?_
        refine g_lload C dX3_lowerBy_83 85 rfl 0 rfl ?_
        refine g_ldc2 (v' := (lN 9000000000000000000)) C (C.1.2.2.2.2 (.constantLong RX3 24 (9000000000000000000)) (List.mem_of_getElem? (i := 2) rfl)) (by decide) dX3_lowerBy_85 88 rfl ?_
        refine g_lcmp_eq (X := sm 1 (pbC n Cv ((Hd r) * 5) ((((To r) * 5) + ((Tp r) - 1)) * 5) (Bl r) x (((((To r) * 5) + ((Tp r) - 1)) * 5) + x)) = 9000000000000000000) C dX3_lowerBy_88 rfl dX3_lowerBy_89 153 (by decide) 92 rfl (pk_lEQ (by have := sm_ok 1 (pbC n Cv ((Hd r) * 5) ((((To r) * 5) + ((Tp r) - 1)) * 5) (Bl r) x (((((To r) * 5) + ((Tp r) - 1)) * 5) + x)); omega) (by decide)) ?_ ?_
        · intro h88
          refine g_iinc (lv' := [(6, .int (nI (x + 1))), (7, .long (lN (sm 1 ((pbC n Cv ((Hd r) * 5) ((((To r) * 5) + ((Tp r) - 1)) * 5) (Bl r) x) ((((To r) * 5 + ((Tp r) - 1)) * 5) + x))))), (5, .int (bI (pbB n Cv ((Hd r) * 5) ((((To r) * 5) + ((Tp r) - 1)) * 5) (Bl r) x))), (4, .int (nI (((To r) * 5 + ((Tp r) - 1)) * 5))), (3, .int (nI ((Hd r) * 5))), (0, .ref k0), (1, .ref h0), (2, .int (nI r))]) C dX3_lowerBy_153 156 rfl 1 rfl (by decide) rfl ?_
          refine g_goto C dX3_lowerBy_156 58 (by decide) ?_
          refine go_lv (lv' := [(6, .int (nI (x + 1))), (5, .int (bI (pbB n Cv ((Hd r) * 5) ((((To r) * 5) + ((Tp r) - 1)) * 5) (Bl r) x))), (4, .int (nI (((To r) * 5 + ((Tp r) - 1)) * 5))), (3, .int (nI ((Hd r) * 5))), (0, .ref k0), (1, .ref h0), (2, .int (nI r))]) [0, 2, 3, 4, 5, 6, 7] rfl ?_
          have e_3 : (pbB n Cv ((Hd r) * 5) ((((To r) * 5) + ((Tp r) - 1)) * 5) (Bl r) (x + 1)) = (pbB n Cv ((Hd r) * 5) ((((To r) * 5) + ((Tp r) - 1)) * 5) (Bl r) x) := by simp only [pbC, pbB]; repeat (first | rw [if_pos (by assumption)] | rw [if_neg (by assumption)]); try (first | rfl | (simp only [h138, Bool.true_or]; done) | (simp only [h138, h143, Bool.or_self]; done) | (simp only [h138, h143, Bool.or_true, Bool.false_or]; done))
          have e_4 : (pbC n Cv ((Hd r) * 5) ((((To r) * 5) + ((Tp r) - 1)) * 5) (Bl r) (x + 1)) = (pbC n Cv ((Hd r) * 5) ((((To r) * 5) + ((Tp r) - 1)) * 5) (Bl r) x) := by simp only [pbC, pbB]; repeat (first | rw [if_pos (by assumption)] | rw [if_neg (by assumption)]); try (first | rfl | (simp only [h138, Bool.true_or]; done) | (simp only [h138, h143, Bool.or_self]; done) | (simp only [h138, h143, Bool.or_true, Bool.false_or]; done))
          refine go_eq (lv' := [(6, .int (nI (x + 1))), (5, .int (bI (pbB n Cv ((Hd r) * 5) ((((To r) * 5) + ((Tp r) - 1)) * 5) (Bl r) (x + 1)))), (4, .int (nI (((To r) * 5 + ((Tp r) - 1)) * 5))), (3, .int (nI ((Hd r) * 5))), (0, .ref k0), (1, .ref h0), (2, .int (nI r))]) (ws' := [ob k0 3 [.ref ql, .int (oI sn)], aL (eY E) ql 125 (pbC n Cv ((Hd r) * 5) ((((To r) * 5) + ((Tp r) - 1)) * 5) (Bl r) (x + 1)), ob h0 4 [.int (nI n), .int (nI m), .int (nI z), .int (nI st), .ref qh, .ref qt, .ref qp, .ref qb], aN (eY E) qh 30 Hd, aN (eY E) qt 30 To, aO (eY E) qp 30 Tp, aO (eY E) qb 30 Bl]) (by first | rfl | (simp only [e_3, e_4, oI_s, oI_0]; first | done | rfl)) rfl (by first | rfl | (simp only [e_3, e_4, oI_s, oI_0]; first | done | rfl)) ?_
          exact ih_x (by omega)
        · intro h88
          refine g_aload_n C dX3_lowerBy_92 rfl 93 rfl 6 rfl ?_
          refine g_getN C iX4 2 rfl rfl 7 (by decide) (nf_RX3_64 C.2.2.1 _) rfl dX3_lowerBy_93 96 rfl ?_
          refine g_iload_n C dX3_lowerBy_96 rfl 97 rfl 7 rfl ?_
          refine g_iald (i := r) C 6 rfl (by omega) (by decide) dX3_lowerBy_97 98 rfl ?_
          refine g_iconst (v := (-1)) C dX3_lowerBy_98 (by decide) 99 rfl ?_
          refine g_icmp_ne (X := ¬ Bl r = 0) C dX3_lowerBy_99 115 (by decide) 102 rfl (not_congr (oI_eq (by omega))) ?_ ?_
          · intro h99
            refine g_aload_n C dX3_lowerBy_115 rfl 116 rfl 5 rfl ?_
            refine g_aload_n C dX3_lowerBy_116 rfl 117 rfl 6 rfl ?_
            refine g_iload_n C dX3_lowerBy_117 rfl 118 rfl 4 rfl ?_
            refine g_lload C dX3_lowerBy_118 120 rfl 0 rfl ?_
            refine g_iload C dX3_lowerBy_120 122 rfl 1 rfl ?_
            refine g_aload_n C dX3_lowerBy_122 rfl 123 rfl 6 rfl ?_
            refine g_getN C iX4 2 rfl rfl 7 (by decide) (nf_RX3_64 C.2.2.1 _) rfl dX3_lowerBy_123 126 rfl ?_
            refine g_iload_n C dX3_lowerBy_126 rfl 127 rfl 7 rfl ?_
            refine g_iald (i := r) C 6 rfl (by omega) (by decide) dX3_lowerBy_127 128 rfl ?_
            refine go_eq rfl (st' := [.int (nI ((Bl r) - 1)), .int (nI x), .long (lN (sm 1 ((pbC n Cv ((Hd r) * 5) ((((To r) * 5) + ((Tp r) - 1)) * 5) (Bl r) x) ((((To r) * 5 + ((Tp r) - 1)) * 5) + x)))), .int (nI ((Hd r) * 5)), .ref h0, .ref k0]) (ws' := [ob k0 3 [.ref ql, .int (oI sn)], aL (eY E) ql 125 (pbC n Cv ((Hd r) * 5) ((((To r) * 5) + ((Tp r) - 1)) * 5) (Bl r) x), ob h0 4 [.int (nI n), .int (nI m), .int (nI z), .int (nI st), .ref qh, .ref qt, .ref qp, .ref qb], aN (eY E) qh 30 Hd, aN (eY E) qt 30 To, aO (eY E) qp 30 Tp, aO (eY E) qb 30 Bl]) (by rw [oI_pos (a := (Bl r)) (by omega)]) (by rfl) ?_
            refine g_cSNi (ws2 := [ob k0 3 [.ref ql, .int (oI sn)], aL (eY E) ql 125 (pbC n Cv ((Hd r) * 5) ((((To r) * 5) + ((Tp r) - 1)) * 5) (Bl r) x), ob h0 4 [.int (nI n), .int (nI m), .int (nI z), .int (nI st), .ref qh, .ref qt, .ref qp, .ref qb], aN (eY E) qh 30 Hd, aN (eY E) qt 30 To, aO (eY E) qp 30 Tp, aO (eY E) qb 30 Bl]) (As := [.int (nI x), .int (nI ((Bl r) - 1))]) (st := [.long (lN (sm 1 ((pbC n Cv ((Hd r) * 5) ((((To r) * 5) + ((Tp r) - 1)) * 5) (Bl r) x) ((((To r) * 5 + ((Tp r) - 1)) * 5) + x)))), .int (nI ((Hd r) * 5)), .ref h0, .ref k0]) (wsc := []) (wr := [ob k0 3 [.ref ql, .int (oI sn)], aL (eY E) ql 125 (pbC n Cv ((Hd r) * 5) ((((To r) * 5) + ((Tp r) - 1)) * 5) (Bl r) x), ob h0 4 [.int (nI n), .int (nI m), .int (nI z), .int (nI st), .ref qh, .ref qt, .ref qp, .ref qb], aN (eY E) qh 30 Hd, aN (eY E) qt 30 To, aO (eY E) qp 30 Tp, aO (eY E) qb 30 Bl]) C (c_X6_headOf (eL E) (eD E) (eY E) x ((Bl r) - 1) ) 2 ggX3_lowerBy_X6_headOf (nm_RX3_53 C.2.2.1) (List.mem_of_getElem? (i := 9) rfl) (List.mem_of_getElem? (i := 8) rfl) rfl (by decide +kernel) (by decide) ⟨Nat.zero_le _, Nat.zero_le _⟩ rfl rfl (Nat.le_of_ble_eq_true rfl) [] [0, 1, 2, 3, 4, 5, 6] [0, 1, 2, 3, 4, 5, 6] rfl rfl (by decide) (by decide) rfl (by decide) dX3_lowerBy_128 131 rfl ?_
            refine g_cVi (ws2 := [ob k0 3 [.ref ql, .int (oI sn)], aL (eY E) ql 125 (prC (pbC n Cv ((Hd r) * 5) ((((To r) * 5) + ((Tp r) - 1)) * 5) (Bl r) x) ((Hd r) * 5) (sm 1 ((pbC n Cv ((Hd r) * 5) ((((To r) * 5) + ((Tp r) - 1)) * 5) (Bl r) x) ((((To r) * 5 + ((Tp r) - 1)) * 5) + x))) (x * 5 + ((Bl r) - 1)) n), ob h0 4 [.int (nI n), .int (nI m), .int (nI z), .int (nI st), .ref qh, .ref qt, .ref qp, .ref qb], aN (eY E) qh 30 Hd, aN (eY E) qt 30 To, aO (eY E) qp 30 Tp, aO (eY E) qb 30 Bl]) (As := [.ref h0, .int (nI ((Hd r) * 5)), .long (lN (sm 1 ((pbC n Cv ((Hd r) * 5) ((((To r) * 5) + ((Tp r) - 1)) * 5) (Bl r) x) ((((To r) * 5 + ((Tp r) - 1)) * 5) + x)))), .int (nI (x * 5 + ((Bl r) - 1)))]) (st := []) (wsc := [ob k0 3 [.ref ql, .int (oI sn)], aL (eY E) ql 125 (pbC n Cv ((Hd r) * 5) ((((To r) * 5) + ((Tp r) - 1)) * 5) (Bl r) x), ob h0 4 [.int (nI n), .int (nI m), .int (nI z), .int (nI st), .ref qh, .ref qt, .ref qp, .ref qb]]) (wr := [aN (eY E) qh 30 Hd, aN (eY E) qt 30 To, aO (eY E) qp 30 Tp, aO (eY E) qb 30 Bl]) C (c_X3_lowerRow (eL E) (eD E) (eY E) k0 ql sn (pbC n Cv ((Hd r) * 5) ((((To r) * 5) + ((Tp r) - 1)) * 5) (Bl r) x) h0 n m z st qh qt qp qb ((Hd r) * 5) (sm 1 ((pbC n Cv ((Hd r) * 5) ((((To r) * 5) + ((Tp r) - 1)) * 5) (Bl r) x) ((((To r) * 5 + ((Tp r) - 1)) * 5) + x))) (x * 5 + ((Bl r) - 1)) (by first | assumption | exact prC_ok (by assumption) _ _ _ _ | exact pbC_ok (by assumption) _ _ _ _ | exact rdC_ok (by assumption) _ | exact itC_ok _) (by omega) (by omega) (by first | exact sm_ok _ _ | omega) (by omega)) 4 gX3_lowerBy_X3_lowerRow rfl (by decide +kernel) (by decide) ⟨Nat.zero_le _, Nat.zero_le _⟩ rfl 0 rfl rfl rfl (Nat.le_of_ble_eq_true rfl) [0, 1, 2] [3, 4, 5, 6] [4, 5, 6, 0, 1, 2, 3] rfl rfl (by decide) (by decide) rfl (by decide) dX3_lowerBy_131 134 rfl ?_
            refine g_istore (lv' := [(9, .int (bI (prB (pbC n Cv ((Hd r) * 5) ((((To r) * 5) + ((Tp r) - 1)) * 5) (Bl r) x) ((Hd r) * 5) (sm 1 ((pbC n Cv ((Hd r) * 5) ((((To r) * 5) + ((Tp r) - 1)) * 5) (Bl r) x) ((((To r) * 5 + ((Tp r) - 1)) * 5) + x))) (x * 5 + ((Bl r) - 1)) n))), (7, .long (lN (sm 1 ((pbC n Cv ((Hd r) * 5) ((((To r) * 5) + ((Tp r) - 1)) * 5) (Bl r) x) ((((To r) * 5 + ((Tp r) - 1)) * 5) + x))))), (6, .int (nI x)), (5, .int (bI (pbB n Cv ((Hd r) * 5) ((((To r) * 5) + ((Tp r) - 1)) * 5) (Bl r) x))), (4, .int (nI (((To r) * 5 + ((Tp r) - 1)) * 5))), (3, .int (nI ((Hd r) * 5))), (0, .ref k0), (1, .ref h0), (2, .int (nI r))]) C dX3_lowerBy_134 136 rfl (by decide) rfl ?_
            refine g_iload C dX3_lowerBy_136 138 rfl 0 rfl ?_
            refine g_if_ne (X := prB (pbC n Cv ((Hd r) * 5) ((((To r) * 5) + ((Tp r) - 1)) * 5) (Bl r) x) ((Hd r) * 5) (sm 1 ((pbC n Cv ((Hd r) * 5) ((((To r) * 5) + ((Tp r) - 1)) * 5) (Bl r) x) ((((To r) * 5 + ((Tp r) - 1)) * 5) + x))) (x * 5 + ((Bl r) - 1)) n = true) C dX3_lowerBy_138 146 (by decide) 141 rfl (bI_ne0 _) ?_ ?_
            · intro h138
              refine g_iconst (v := nI 1) C dX3_lowerBy_146 (by decide) 147 rfl ?_
              refine g_goto C dX3_lowerBy_147 151 (by decide) ?_
              refine g_istore (lv' := [(5, .int (nI 1)), (9, .int (bI (prB (pbC n Cv ((Hd r) * 5) ((((To r) * 5) + ((Tp r) - 1)) * 5) (Bl r) x) ((Hd r) * 5) (sm 1 ((pbC n Cv ((Hd r) * 5) ((((To r) * 5) + ((Tp r) - 1)) * 5) (Bl r) x) ((((To r) * 5 + ((Tp r) - 1)) * 5) + x))) (x * 5 + ((Bl r) - 1)) n))), (7, .long (lN (sm 1 ((pbC n Cv ((Hd r) * 5) ((((To r) * 5) + ((Tp r) - 1)) * 5) (Bl r) x) ((((To r) * 5 + ((Tp r) - 1)) * 5) + x))))), (6, .int (nI x)), (4, .int (nI (((To r) * 5 + ((Tp r) - 1)) * 5))), (3, .int (nI ((Hd r) * 5))), (0, .ref k0), (1, .ref h0), (2, .int (nI r))]) C dX3_lowerBy_151 153 rfl (by decide) rfl ?_
              refine g_iinc (lv' := [(6, .int (nI (x + 1))), (5, .int (nI 1)), (9, .int (bI (prB (pbC n Cv ((Hd r) * 5) ((((To r) * 5) + ((Tp r) - 1)) * 5) (Bl r) x) ((Hd r) * 5) (sm 1 ((pbC n Cv ((Hd r) * 5) ((((To r) * 5) + ((Tp r) - 1)) * 5) (Bl r) x) ((((To r) * 5 + ((Tp r) - 1)) * 5) + x))) (x * 5 + ((Bl r) - 1)) n))), (7, .long (lN (sm 1 ((pbC n Cv ((Hd r) * 5) ((((To r) * 5) + ((Tp r) - 1)) * 5) (Bl r) x) ((((To r) * 5 + ((Tp r) - 1)) * 5) + x))))), (4, .int (nI (((To r) * 5 + ((Tp r) - 1)) * 5))), (3, .int (nI ((Hd r) * 5))), (0, .ref k0), (1, .ref h0), (2, .int (nI r))]) C dX3_lowerBy_153 156 rfl 3 rfl (by decide) rfl ?_
              refine g_goto C dX3_lowerBy_156 58 (by decide) ?_
              refine go_lv (lv' := [(6, .int (nI (x + 1))), (5, .int (nI 1)), (4, .int (nI (((To r) * 5 + ((Tp r) - 1)) * 5))), (3, .int (nI ((Hd r) * 5))), (0, .ref k0), (1, .ref h0), (2, .int (nI r))]) [0, 1, 4, 5, 6, 7, 8] rfl ?_
              have e_5 : (pbB n Cv ((Hd r) * 5) ((((To r) * 5) + ((Tp r) - 1)) * 5) (Bl r) (x + 1)) = true := by simp only [pbC, pbB]; repeat (first | rw [if_pos (by assumption)] | rw [if_neg (by assumption)]); try (first | rfl | (simp only [h138, Bool.true_or]; done) | (simp only [h138, h143, Bool.or_self]; done) | (simp only [h138, h143, Bool.or_true, Bool.false_or]; done))
              have e_6 : (pbC n Cv ((Hd r) * 5) ((((To r) * 5) + ((Tp r) - 1)) * 5) (Bl r) (x + 1)) = (prC (pbC n Cv ((Hd r) * 5) ((((To r) * 5) + ((Tp r) - 1)) * 5) (Bl r) x) ((Hd r) * 5) (sm 1 ((pbC n Cv ((Hd r) * 5) ((((To r) * 5) + ((Tp r) - 1)) * 5) (Bl r) x) ((((To r) * 5 + ((Tp r) - 1)) * 5) + x))) (x * 5 + ((Bl r) - 1)) n) := by simp only [pbC, pbB]; repeat (first | rw [if_pos (by assumption)] | rw [if_neg (by assumption)]); try (first | rfl | (simp only [h138, Bool.true_or]; done) | (simp only [h138, h143, Bool.or_self]; done) | (simp only [h138, h143, Bool.or_true, Bool.false_or]; done))
              refine go_eq (lv' := [(6, .int (nI (x + 1))), (5, .int (bI (pbB n Cv ((Hd r) * 5) ((((To r) * 5) + ((Tp r) - 1)) * 5) (Bl r) (x + 1)))), (4, .int (nI (((To r) * 5 + ((Tp r) - 1)) * 5))), (3, .int (nI ((Hd r) * 5))), (0, .ref k0), (1, .ref h0), (2, .int (nI r))]) (ws' := [ob k0 3 [.ref ql, .int (oI sn)], aL (eY E) ql 125 (pbC n Cv ((Hd r) * 5) ((((To r) * 5) + ((Tp r) - 1)) * 5) (Bl r) (x + 1)), ob h0 4 [.int (nI n), .int (nI m), .int (nI z), .int (nI st), .ref qh, .ref qt, .ref qp, .ref qb], aN (eY E) qh 30 Hd, aN (eY E) qt 30 To, aO (eY E) qp 30 Tp, aO (eY E) qb 30 Bl]) (by first | rfl | (simp only [e_5, e_6, oI_s, oI_0]; first | done | rfl)) rfl (by first | rfl | (simp only [e_5, e_6, oI_s, oI_0]; first | done | rfl)) ?_
              exact ih_x (by omega)
            · intro h138
              have h138 : prB (pbC n Cv ((Hd r) * 5) ((((To r) * 5) + ((Tp r) - 1)) * 5) (Bl r) x) ((Hd r) * 5) (sm 1 ((pbC n Cv ((Hd r) * 5) ((((To r) * 5) + ((Tp r) - 1)) * 5) (Bl r) x) ((((To r) * 5 + ((Tp r) - 1)) * 5) + x))) (x * 5 + ((Bl r) - 1)) n = false := by simpa using h138
              refine g_iload C dX3_lowerBy_141 143 rfl 3 rfl ?_
              refine g_if_eq (X := pbB n Cv ((Hd r) * 5) ((((To r) * 5) + ((Tp r) - 1)) * 5) (Bl r) x = false) C dX3_lowerBy_143 150 (by decide) 146 rfl (bI_eq0 _) ?_ ?_
              · intro h143
                refine g_iconst (v := nI 0) C dX3_lowerBy_150 (by decide) 151 rfl ?_
                refine g_istore (lv' := [(5, .int (nI 0)), (9, .int (bI (prB (pbC n Cv ((Hd r) * 5) ((((To r) * 5) + ((Tp r) - 1)) * 5) (Bl r) x) ((Hd r) * 5) (sm 1 ((pbC n Cv ((Hd r) * 5) ((((To r) * 5) + ((Tp r) - 1)) * 5) (Bl r) x) ((((To r) * 5 + ((Tp r) - 1)) * 5) + x))) (x * 5 + ((Bl r) - 1)) n))), (7, .long (lN (sm 1 ((pbC n Cv ((Hd r) * 5) ((((To r) * 5) + ((Tp r) - 1)) * 5) (Bl r) x) ((((To r) * 5 + ((Tp r) - 1)) * 5) + x))))), (6, .int (nI x)), (4, .int (nI (((To r) * 5 + ((Tp r) - 1)) * 5))), (3, .int (nI ((Hd r) * 5))), (0, .ref k0), (1, .ref h0), (2, .int (nI r))]) C dX3_lowerBy_151 153 rfl (by decide) rfl ?_
                refine g_iinc (lv' := [(6, .int (nI (x + 1))), (5, .int (nI 0)), (9, .int (bI (prB (pbC n Cv ((Hd r) * 5) ((((To r) * 5) + ((Tp r) - 1)) * 5) (Bl r) x) ((Hd r) * 5) (sm 1 ((pbC n Cv ((Hd r) * 5) ((((To r) * 5) + ((Tp r) - 1)) * 5) (Bl r) x) ((((To r) * 5 + ((Tp r) - 1)) * 5) + x))) (x * 5 + ((Bl r) - 1)) n))), (7, .long (lN (sm 1 ((pbC n Cv ((Hd r) * 5) ((((To r) * 5) + ((Tp r) - 1)) * 5) (Bl r) x) ((((To r) * 5 + ((Tp r) - 1)) * 5) + x))))), (4, .int (nI (((To r) * 5 + ((Tp r) - 1)) * 5))), (3, .int (nI ((Hd r) * 5))), (0, .ref k0), (1, .ref h0), (2, .int (nI r))]) C dX3_lowerBy_153 156 rfl 3 rfl (by decide) rfl ?_
                refine g_goto C dX3_lowerBy_156 58 (by decide) ?_
                refine go_lv (lv' := [(6, .int (nI (x + 1))), (5, .int (nI 0)), (4, .int (nI (((To r) * 5 + ((Tp r) - 1)) * 5))), (3, .int (nI ((Hd r) * 5))), (0, .ref k0), (1, .ref h0), (2, .int (nI r))]) [0, 1, 4, 5, 6, 7, 8] rfl ?_
                have e_7 : (pbB n Cv ((Hd r) * 5) ((((To r) * 5) + ((Tp r) - 1)) * 5) (Bl r) (x + 1)) = false := by simp only [pbC, pbB]; repeat (first | rw [if_pos (by assumption)] | rw [if_neg (by assumption)]); try (first | rfl | (simp only [h138, Bool.true_or]; done) | (simp only [h138, h143, Bool.or_self]; done) | (simp only [h138, h143, Bool.or_true, Bool.false_or]; done))
                have e_8 : (pbC n Cv ((Hd r) * 5) ((((To r) * 5) + ((Tp r) - 1)) * 5) (Bl r) (x + 1)) = (prC (pbC n Cv ((Hd r) * 5) ((((To r) * 5) + ((Tp r) - 1)) * 5) (Bl r) x) ((Hd r) * 5) (sm 1 ((pbC n Cv ((Hd r) * 5) ((((To r) * 5) + ((Tp r) - 1)) * 5) (Bl r) x) ((((To r) * 5 + ((Tp r) - 1)) * 5) + x))) (x * 5 + ((Bl r) - 1)) n) := by simp only [pbC, pbB]; repeat (first | rw [if_pos (by assumption)] | rw [if_neg (by assumption)]); try (first | rfl | (simp only [h138, Bool.true_or]; done) | (simp only [h138, h143, Bool.or_self]; done) | (simp only [h138, h143, Bool.or_true, Bool.false_or]; done))
                refine go_eq (lv' := [(6, .int (nI (x + 1))), (5, .int (bI (pbB n Cv ((Hd r) * 5) ((((To r) * 5) + ((Tp r) - 1)) * 5) (Bl r) (x + 1)))), (4, .int (nI (((To r) * 5 + ((Tp r) - 1)) * 5))), (3, .int (nI ((Hd r) * 5))), (0, .ref k0), (1, .ref h0), (2, .int (nI r))]) (ws' := [ob k0 3 [.ref ql, .int (oI sn)], aL (eY E) ql 125 (pbC n Cv ((Hd r) * 5) ((((To r) * 5) + ((Tp r) - 1)) * 5) (Bl r) (x + 1)), ob h0 4 [.int (nI n), .int (nI m), .int (nI z), .int (nI st), .ref qh, .ref qt, .ref qp, .ref qb], aN (eY E) qh 30 Hd, aN (eY E) qt 30 To, aO (eY E) qp 30 Tp, aO (eY E) qb 30 Bl]) (by first | rfl | (simp only [e_7, e_8, oI_s, oI_0]; first | done | rfl)) rfl (by first | rfl | (simp only [e_7, e_8, oI_s, oI_0]; first | done | rfl)) ?_
                exact ih_x (by omega)
              · intro h143
                have h143 : pbB n Cv ((Hd r) * 5) ((((To r) * 5) + ((Tp r) - 1)) * 5) (Bl r) x = true := by simpa using h143
                refine g_iconst (v := nI 1) C dX3_lowerBy_146 (by decide) 147 rfl ?_
                refine g_goto C dX3_lowerBy_147 151 (by decide) ?_
                refine g_istore (lv' := [(5, .int (nI 1)), (9, .int (bI (prB (pbC n Cv ((Hd r) * 5) ((((To r) * 5) + ((Tp r) - 1)) * 5) (Bl r) x) ((Hd r) * 5) (sm 1 ((pbC n Cv ((Hd r) * 5) ((((To r) * 5) + ((Tp r) - 1)) * 5) (Bl r) x) ((((To r) * 5 + ((Tp r) - 1)) * 5) + x))) (x * 5 + ((Bl r) - 1)) n))), (7, .long (lN (sm 1 ((pbC n Cv ((Hd r) * 5) ((((To r) * 5) + ((Tp r) - 1)) * 5) (Bl r) x) ((((To r) * 5 + ((Tp r) - 1)) * 5) + x))))), (6, .int (nI x)), (4, .int (nI (((To r) * 5 + ((Tp r) - 1)) * 5))), (3, .int (nI ((Hd r) * 5))), (0, .ref k0), (1, .ref h0), (2, .int (nI r))]) C dX3_lowerBy_151 153 rfl (by decide) rfl ?_
                refine g_iinc (lv' := [(6, .int (nI (x + 1))), (5, .int (nI 1)), (9, .int (bI (prB (pbC n Cv ((Hd r) * 5) ((((To r) * 5) + ((Tp r) - 1)) * 5) (Bl r) x) ((Hd r) * 5) (sm 1 ((pbC n Cv ((Hd r) * 5) ((((To r) * 5) + ((Tp r) - 1)) * 5) (Bl r) x) ((((To r) * 5 + ((Tp r) - 1)) * 5) + x))) (x * 5 + ((Bl r) - 1)) n))), (7, .long (lN (sm 1 ((pbC n Cv ((Hd r) * 5) ((((To r) * 5) + ((Tp r) - 1)) * 5) (Bl r) x) ((((To r) * 5 + ((Tp r) - 1)) * 5) + x))))), (4, .int (nI (((To r) * 5 + ((Tp r) - 1)) * 5))), (3, .int (nI ((Hd r) * 5))), (0, .ref k0), (1, .ref h0), (2, .int (nI r))]) C dX3_lowerBy_153 156 rfl 3 rfl (by decide) rfl ?_
                refine g_goto C dX3_lowerBy_156 58 (by decide) ?_
                refine go_lv (lv' := [(6, .int (nI (x + 1))), (5, .int (nI 1)), (4, .int (nI (((To r) * 5 + ((Tp r) - 1)) * 5))), (3, .int (nI ((Hd r) * 5))), (0, .ref k0), (1, .ref h0), (2, .int (nI r))]) [0, 1, 4, 5, 6, 7, 8] rfl ?_
                have e_9 : (pbB n Cv ((Hd r) * 5) ((((To r) * 5) + ((Tp r) - 1)) * 5) (Bl r) (x + 1)) = true := by simp only [pbC, pbB]; repeat (first | rw [if_pos (by assumption)] | rw [if_neg (by assumption)]); try (first | rfl | (simp only [h138, Bool.true_or]; done) | (simp only [h138, h143, Bool.or_self]; done) | (simp only [h138, h143, Bool.or_true, Bool.false_or]; done))
                have e_10 : (pbC n Cv ((Hd r) * 5) ((((To r) * 5) + ((Tp r) - 1)) * 5) (Bl r) (x + 1)) = (prC (pbC n Cv ((Hd r) * 5) ((((To r) * 5) + ((Tp r) - 1)) * 5) (Bl r) x) ((Hd r) * 5) (sm 1 ((pbC n Cv ((Hd r) * 5) ((((To r) * 5) + ((Tp r) - 1)) * 5) (Bl r) x) ((((To r) * 5 + ((Tp r) - 1)) * 5) + x))) (x * 5 + ((Bl r) - 1)) n) := by simp only [pbC, pbB]; repeat (first | rw [if_pos (by assumption)] | rw [if_neg (by assumption)]); try (first | rfl | (simp only [h138, Bool.true_or]; done) | (simp only [h138, h143, Bool.or_self]; done) | (simp only [h138, h143, Bool.or_true, Bool.false_or]; done))
                refine go_eq (lv' := [(6, .int (nI (x + 1))), (5, .int (bI (pbB n Cv ((Hd r) * 5) ((((To r) * 5) + ((Tp r) - 1)) * 5) (Bl r) (x + 1)))), (4, .int (nI (((To r) * 5 + ((Tp r) - 1)) * 5))), (3, .int (nI ((Hd r) * 5))), (0, .ref k0), (1, .ref h0), (2, .int (nI r))]) (ws' := [ob k0 3 [.ref ql, .int (oI sn)], aL (eY E) ql 125 (pbC n Cv ((Hd r) * 5) ((((To r) * 5) + ((Tp r) - 1)) * 5) (Bl r) (x + 1)), ob h0 4 [.int (nI n), .int (nI m), .int (nI z), .int (nI st), .ref qh, .ref qt, .ref qp, .ref qb], aN (eY E) qh 30 Hd, aN (eY E) qt 30 To, aO (eY E) qp 30 Tp, aO (eY E) qb 30 Bl]) (by first | rfl | (simp only [e_9, e_10, oI_s, oI_0]; first | done | rfl)) rfl (by first | rfl | (simp only [e_9, e_10, oI_s, oI_0]; first | done | rfl)) ?_
                exact ih_x (by omega)
          · intro h99
            have h99 : Bl r = 0 := Decidable.not_not.mp h99
            refine g_aload_n C dX3_lowerBy_102 rfl 103 rfl 5 rfl ?_
            refine g_iload_n C dX3_lowerBy_103 rfl 104 rfl 4 rfl ?_
            refine g_iload C dX3_lowerBy_104 106 rfl 1 rfl ?_
            refine g_iadd (z := nI (((Hd r) * 5) + x)) C dX3_lowerBy_106 107 rfl (nI_add _ _) ?_
            refine g_lload C dX3_lowerBy_107 109 rfl 0 rfl ?_
            refine g_cVi (ws2 := [ob k0 3 [.ref ql, .int (oI sn)], aL (eY E) ql 125 (lowC (pbC n Cv ((Hd r) * 5) ((((To r) * 5) + ((Tp r) - 1)) * 5) (Bl r) x) (((Hd r) * 5) + x) (sm 1 ((pbC n Cv ((Hd r) * 5) ((((To r) * 5) + ((Tp r) - 1)) * 5) (Bl r) x) ((((To r) * 5 + ((Tp r) - 1)) * 5) + x)))), ob h0 4 [.int (nI n), .int (nI m), .int (nI z), .int (nI st), .ref qh, .ref qt, .ref qp, .ref qb], aN (eY E) qh 30 Hd, aN (eY E) qt 30 To, aO (eY E) qp 30 Tp, aO (eY E) qb 30 Bl]) (As := [.int (nI (((Hd r) * 5) + x)), .long (lN (sm 1 ((pbC n Cv ((Hd r) * 5) ((((To r) * 5) + ((Tp r) - 1)) * 5) (Bl r) x) ((((To r) * 5 + ((Tp r) - 1)) * 5) + x))))]) (st := []) (wsc := [ob k0 3 [.ref ql, .int (oI sn)], aL (eY E) ql 125 (pbC n Cv ((Hd r) * 5) ((((To r) * 5) + ((Tp r) - 1)) * 5) (Bl r) x)]) (wr := [ob h0 4 [.int (nI n), .int (nI m), .int (nI z), .int (nI st), .ref qh, .ref qt, .ref qp, .ref qb], aN (eY E) qh 30 Hd, aN (eY E) qt 30 To, aO (eY E) qp 30 Tp, aO (eY E) qb 30 Bl]) C (c_X3_lower (eL E) (eD E) (eY E) k0 ql sn (pbC n Cv ((Hd r) * 5) ((((To r) * 5) + ((Tp r) - 1)) * 5) (Bl r) x) (((Hd r) * 5) + x) (sm 1 ((pbC n Cv ((Hd r) * 5) ((((To r) * 5) + ((Tp r) - 1)) * 5) (Bl r) x) ((((To r) * 5 + ((Tp r) - 1)) * 5) + x))) (by first | assumption | exact prC_ok (by assumption) _ _ _ _ | exact pbC_ok (by assumption) _ _ _ _ | exact rdC_ok (by assumption) _ | exact itC_ok _) (by omega) (by first | exact sm_ok _ _ | omega)) 2 gX3_lowerBy_X3_lower rfl (by decide +kernel) (by decide) ⟨Nat.zero_le _, Nat.zero_le _⟩ rfl 0 rfl rfl rfl (Nat.le_of_ble_eq_true rfl) [0, 1] [2, 3, 4, 5, 6] [5, 6, 0, 1, 2, 3, 4] rfl rfl (by decide) (by decide) rfl (by decide) dX3_lowerBy_109 112 rfl ?_
            refine g_goto C dX3_lowerBy_112 134 (by decide) ?_
            refine g_istore (lv' := [(9, .int (bI (lowB (pbC n Cv ((Hd r) * 5) ((((To r) * 5) + ((Tp r) - 1)) * 5) (Bl r) x) (((Hd r) * 5) + x) (sm 1 ((pbC n Cv ((Hd r) * 5) ((((To r) * 5) + ((Tp r) - 1)) * 5) (Bl r) x) ((((To r) * 5 + ((Tp r) - 1)) * 5) + x)))))), (7, .long (lN (sm 1 ((pbC n Cv ((Hd r) * 5) ((((To r) * 5) + ((Tp r) - 1)) * 5) (Bl r) x) ((((To r) * 5 + ((Tp r) - 1)) * 5) + x))))), (6, .int (nI x)), (5, .int (bI (pbB n Cv ((Hd r) * 5) ((((To r) * 5) + ((Tp r) - 1)) * 5) (Bl r) x))), (4, .int (nI (((To r) * 5 + ((Tp r) - 1)) * 5))), (3, .int (nI ((Hd r) * 5))), (0, .ref k0), (1, .ref h0), (2, .int (nI r))]) C dX3_lowerBy_134 136 rfl (by decide) rfl ?_
            refine g_iload C dX3_lowerBy_136 138 rfl 0 rfl ?_
            refine g_if_ne (X := lowB (pbC n Cv ((Hd r) * 5) ((((To r) * 5) + ((Tp r) - 1)) * 5) (Bl r) x) (((Hd r) * 5) + x) (sm 1 ((pbC n Cv ((Hd r) * 5) ((((To r) * 5) + ((Tp r) - 1)) * 5) (Bl r) x) ((((To r) * 5 + ((Tp r) - 1)) * 5) + x))) = true) C dX3_lowerBy_138 146 (by decide) 141 rfl (bI_ne0 _) ?_ ?_
            · intro h138
              refine g_iconst (v := nI 1) C dX3_lowerBy_146 (by decide) 147 rfl ?_
              refine g_goto C dX3_lowerBy_147 151 (by decide) ?_
              refine g_istore (lv' := [(5, .int (nI 1)), (9, .int (bI (lowB (pbC n Cv ((Hd r) * 5) ((((To r) * 5) + ((Tp r) - 1)) * 5) (Bl r) x) (((Hd r) * 5) + x) (sm 1 ((pbC n Cv ((Hd r) * 5) ((((To r) * 5) + ((Tp r) - 1)) * 5) (Bl r) x) ((((To r) * 5 + ((Tp r) - 1)) * 5) + x)))))), (7, .long (lN (sm 1 ((pbC n Cv ((Hd r) * 5) ((((To r) * 5) + ((Tp r) - 1)) * 5) (Bl r) x) ((((To r) * 5 + ((Tp r) - 1)) * 5) + x))))), (6, .int (nI x)), (4, .int (nI (((To r) * 5 + ((Tp r) - 1)) * 5))), (3, .int (nI ((Hd r) * 5))), (0, .ref k0), (1, .ref h0), (2, .int (nI r))]) C dX3_lowerBy_151 153 rfl (by decide) rfl ?_
              refine g_iinc (lv' := [(6, .int (nI (x + 1))), (5, .int (nI 1)), (9, .int (bI (lowB (pbC n Cv ((Hd r) * 5) ((((To r) * 5) + ((Tp r) - 1)) * 5) (Bl r) x) (((Hd r) * 5) + x) (sm 1 ((pbC n Cv ((Hd r) * 5) ((((To r) * 5) + ((Tp r) - 1)) * 5) (Bl r) x) ((((To r) * 5 + ((Tp r) - 1)) * 5) + x)))))), (7, .long (lN (sm 1 ((pbC n Cv ((Hd r) * 5) ((((To r) * 5) + ((Tp r) - 1)) * 5) (Bl r) x) ((((To r) * 5 + ((Tp r) - 1)) * 5) + x))))), (4, .int (nI (((To r) * 5 + ((Tp r) - 1)) * 5))), (3, .int (nI ((Hd r) * 5))), (0, .ref k0), (1, .ref h0), (2, .int (nI r))]) C dX3_lowerBy_153 156 rfl 3 rfl (by decide) rfl ?_
              refine g_goto C dX3_lowerBy_156 58 (by decide) ?_
              refine go_lv (lv' := [(6, .int (nI (x + 1))), (5, .int (nI 1)), (4, .int (nI (((To r) * 5 + ((Tp r) - 1)) * 5))), (3, .int (nI ((Hd r) * 5))), (0, .ref k0), (1, .ref h0), (2, .int (nI r))]) [0, 1, 4, 5, 6, 7, 8] rfl ?_
              have e_11 : (pbB n Cv ((Hd r) * 5) ((((To r) * 5) + ((Tp r) - 1)) * 5) (Bl r) (x + 1)) = true := by simp only [pbC, pbB]; repeat (first | rw [if_pos (by assumption)] | rw [if_neg (by assumption)]); try (first | rfl | (simp only [h138, Bool.true_or]; done) | (simp only [h138, h143, Bool.or_self]; done) | (simp only [h138, h143, Bool.or_true, Bool.false_or]; done))
              have e_12 : (pbC n Cv ((Hd r) * 5) ((((To r) * 5) + ((Tp r) - 1)) * 5) (Bl r) (x + 1)) = (lowC (pbC n Cv ((Hd r) * 5) ((((To r) * 5) + ((Tp r) - 1)) * 5) (Bl r) x) (((Hd r) * 5) + x) (sm 1 ((pbC n Cv ((Hd r) * 5) ((((To r) * 5) + ((Tp r) - 1)) * 5) (Bl r) x) ((((To r) * 5 + ((Tp r) - 1)) * 5) + x)))) := by simp only [pbC, pbB]; repeat (first | rw [if_pos (by assumption)] | rw [if_neg (by assumption)]); try (first | rfl | (simp only [h138, Bool.true_or]; done) | (simp only [h138, h143, Bool.or_self]; done) | (simp only [h138, h143, Bool.or_true, Bool.false_or]; done))
              refine go_eq (lv' := [(6, .int (nI (x + 1))), (5, .int (bI (pbB n Cv ((Hd r) * 5) ((((To r) * 5) + ((Tp r) - 1)) * 5) (Bl r) (x + 1)))), (4, .int (nI (((To r) * 5 + ((Tp r) - 1)) * 5))), (3, .int (nI ((Hd r) * 5))), (0, .ref k0), (1, .ref h0), (2, .int (nI r))]) (ws' := [ob k0 3 [.ref ql, .int (oI sn)], aL (eY E) ql 125 (pbC n Cv ((Hd r) * 5) ((((To r) * 5) + ((Tp r) - 1)) * 5) (Bl r) (x + 1)), ob h0 4 [.int (nI n), .int (nI m), .int (nI z), .int (nI st), .ref qh, .ref qt, .ref qp, .ref qb], aN (eY E) qh 30 Hd, aN (eY E) qt 30 To, aO (eY E) qp 30 Tp, aO (eY E) qb 30 Bl]) (by first | rfl | (simp only [e_11, e_12, oI_s, oI_0]; first | done | rfl)) rfl (by first | rfl | (simp only [e_11, e_12, oI_s, oI_0]; first | done | rfl)) ?_
              exact ih_x (by omega)
            · intro h138
              have h138 : lowB (pbC n Cv ((Hd r) * 5) ((((To r) * 5) + ((Tp r) - 1)) * 5) (Bl r) x) (((Hd r) * 5) + x) (sm 1 ((pbC n Cv ((Hd r) * 5) ((((To r) * 5) + ((Tp r) - 1)) * 5) (Bl r) x) ((((To r) * 5 + ((Tp r) - 1)) * 5) + x))) = false := by simpa using h138
              refine g_iload C dX3_lowerBy_141 143 rfl 3 rfl ?_
              refine g_if_eq (X := pbB n Cv ((Hd r) * 5) ((((To r) * 5) + ((Tp r) - 1)) * 5) (Bl r) x = false) C dX3_lowerBy_143 150 (by decide) 146 rfl (bI_eq0 _) ?_ ?_
              · intro h143
                refine g_iconst (v := nI 0) C dX3_lowerBy_150 (by decide) 151 rfl ?_
                refine g_istore (lv' := [(5, .int (nI 0)), (9, .int (bI (lowB (pbC n Cv ((Hd r) * 5) ((((To r) * 5) + ((Tp r) - 1)) * 5) (Bl r) x) (((Hd r) * 5) + x) (sm 1 ((pbC n Cv ((Hd r) * 5) ((((To r) * 5) + ((Tp r) - 1)) * 5) (Bl r) x) ((((To r) * 5 + ((Tp r) - 1)) * 5) + x)))))), (7, .long (lN (sm 1 ((pbC n Cv ((Hd r) * 5) ((((To r) * 5) + ((Tp r) - 1)) * 5) (Bl r) x) ((((To r) * 5 + ((Tp r) - 1)) * 5) + x))))), (6, .int (nI x)), (4, .int (nI (((To r) * 5 + ((Tp r) - 1)) * 5))), (3, .int (nI ((Hd r) * 5))), (0, .ref k0), (1, .ref h0), (2, .int (nI r))]) C dX3_lowerBy_151 153 rfl (by decide) rfl ?_
                refine g_iinc (lv' := [(6, .int (nI (x + 1))), (5, .int (nI 0)), (9, .int (bI (lowB (pbC n Cv ((Hd r) * 5) ((((To r) * 5) + ((Tp r) - 1)) * 5) (Bl r) x) (((Hd r) * 5) + x) (sm 1 ((pbC n Cv ((Hd r) * 5) ((((To r) * 5) + ((Tp r) - 1)) * 5) (Bl r) x) ((((To r) * 5 + ((Tp r) - 1)) * 5) + x)))))), (7, .long (lN (sm 1 ((pbC n Cv ((Hd r) * 5) ((((To r) * 5) + ((Tp r) - 1)) * 5) (Bl r) x) ((((To r) * 5 + ((Tp r) - 1)) * 5) + x))))), (4, .int (nI (((To r) * 5 + ((Tp r) - 1)) * 5))), (3, .int (nI ((Hd r) * 5))), (0, .ref k0), (1, .ref h0), (2, .int (nI r))]) C dX3_lowerBy_153 156 rfl 3 rfl (by decide) rfl ?_
                refine g_goto C dX3_lowerBy_156 58 (by decide) ?_
                refine go_lv (lv' := [(6, .int (nI (x + 1))), (5, .int (nI 0)), (4, .int (nI (((To r) * 5 + ((Tp r) - 1)) * 5))), (3, .int (nI ((Hd r) * 5))), (0, .ref k0), (1, .ref h0), (2, .int (nI r))]) [0, 1, 4, 5, 6, 7, 8] rfl ?_
                have e_13 : (pbB n Cv ((Hd r) * 5) ((((To r) * 5) + ((Tp r) - 1)) * 5) (Bl r) (x + 1)) = false := by simp only [pbC, pbB]; repeat (first | rw [if_pos (by assumption)] | rw [if_neg (by assumption)]); try (first | rfl | (simp only [h138, Bool.true_or]; done) | (simp only [h138, h143, Bool.or_self]; done) | (simp only [h138, h143, Bool.or_true, Bool.false_or]; done))
                have e_14 : (pbC n Cv ((Hd r) * 5) ((((To r) * 5) + ((Tp r) - 1)) * 5) (Bl r) (x + 1)) = (lowC (pbC n Cv ((Hd r) * 5) ((((To r) * 5) + ((Tp r) - 1)) * 5) (Bl r) x) (((Hd r) * 5) + x) (sm 1 ((pbC n Cv ((Hd r) * 5) ((((To r) * 5) + ((Tp r) - 1)) * 5) (Bl r) x) ((((To r) * 5 + ((Tp r) - 1)) * 5) + x)))) := by simp only [pbC, pbB]; repeat (first | rw [if_pos (by assumption)] | rw [if_neg (by assumption)]); try (first | rfl | (simp only [h138, Bool.true_or]; done) | (simp only [h138, h143, Bool.or_self]; done) | (simp only [h138, h143, Bool.or_true, Bool.false_or]; done))
                refine go_eq (lv' := [(6, .int (nI (x + 1))), (5, .int (bI (pbB n Cv ((Hd r) * 5) ((((To r) * 5) + ((Tp r) - 1)) * 5) (Bl r) (x + 1)))), (4, .int (nI (((To r) * 5 + ((Tp r) - 1)) * 5))), (3, .int (nI ((Hd r) * 5))), (0, .ref k0), (1, .ref h0), (2, .int (nI r))]) (ws' := [ob k0 3 [.ref ql, .int (oI sn)], aL (eY E) ql 125 (pbC n Cv ((Hd r) * 5) ((((To r) * 5) + ((Tp r) - 1)) * 5) (Bl r) (x + 1)), ob h0 4 [.int (nI n), .int (nI m), .int (nI z), .int (nI st), .ref qh, .ref qt, .ref qp, .ref qb], aN (eY E) qh 30 Hd, aN (eY E) qt 30 To, aO (eY E) qp 30 Tp, aO (eY E) qb 30 Bl]) (by first | rfl | (simp only [e_13, e_14, oI_s, oI_0]; first | done | rfl)) rfl (by first | rfl | (simp only [e_13, e_14, oI_s, oI_0]; first | done | rfl)) ?_
                exact ih_x (by omega)
              · intro h143
                have h143 : pbB n Cv ((Hd r) * 5) ((((To r) * 5) + ((Tp r) - 1)) * 5) (Bl r) x = true := by simpa using h143
                refine g_iconst (v := nI 1) C dX3_lowerBy_146 (by decide) 147 rfl ?_
                refine g_goto C dX3_lowerBy_147 151 (by decide) ?_
                refine g_istore (lv' := [(5, .int (nI 1)), (9, .int (bI (lowB (pbC n Cv ((Hd r) * 5) ((((To r) * 5) + ((Tp r) - 1)) * 5) (Bl r) x) (((Hd r) * 5) + x) (sm 1 ((pbC n Cv ((Hd r) * 5) ((((To r) * 5) + ((Tp r) - 1)) * 5) (Bl r) x) ((((To r) * 5 + ((Tp r) - 1)) * 5) + x)))))), (7, .long (lN (sm 1 ((pbC n Cv ((Hd r) * 5) ((((To r) * 5) + ((Tp r) - 1)) * 5) (Bl r) x) ((((To r) * 5 + ((Tp r) - 1)) * 5) + x))))), (6, .int (nI x)), (4, .int (nI (((To r) * 5 + ((Tp r) - 1)) * 5))), (3, .int (nI ((Hd r) * 5))), (0, .ref k0), (1, .ref h0), (2, .int (nI r))]) C dX3_lowerBy_151 153 rfl (by decide) rfl ?_
                refine g_iinc (lv' := [(6, .int (nI (x + 1))), (5, .int (nI 1)), (9, .int (bI (lowB (pbC n Cv ((Hd r) * 5) ((((To r) * 5) + ((Tp r) - 1)) * 5) (Bl r) x) (((Hd r) * 5) + x) (sm 1 ((pbC n Cv ((Hd r) * 5) ((((To r) * 5) + ((Tp r) - 1)) * 5) (Bl r) x) ((((To r) * 5 + ((Tp r) - 1)) * 5) + x)))))), (7, .long (lN (sm 1 ((pbC n Cv ((Hd r) * 5) ((((To r) * 5) + ((Tp r) - 1)) * 5) (Bl r) x) ((((To r) * 5 + ((Tp r) - 1)) * 5) + x))))), (4, .int (nI (((To r) * 5 + ((Tp r) - 1)) * 5))), (3, .int (nI ((Hd r) * 5))), (0, .ref k0), (1, .ref h0), (2, .int (nI r))]) C dX3_lowerBy_153 156 rfl 3 rfl (by decide) rfl ?_
                refine g_goto C dX3_lowerBy_156 58 (by decide) ?_
                refine go_lv (lv' := [(6, .int (nI (x + 1))), (5, .int (nI 1)), (4, .int (nI (((To r) * 5 + ((Tp r) - 1)) * 5))), (3, .int (nI ((Hd r) * 5))), (0, .ref k0), (1, .ref h0), (2, .int (nI r))]) [0, 1, 4, 5, 6, 7, 8] rfl ?_
                have e_15 : (pbB n Cv ((Hd r) * 5) ((((To r) * 5) + ((Tp r) - 1)) * 5) (Bl r) (x + 1)) = true := by simp only [pbC, pbB]; repeat (first | rw [if_pos (by assumption)] | rw [if_neg (by assumption)]); try (first | rfl | (simp only [h138, Bool.true_or]; done) | (simp only [h138, h143, Bool.or_self]; done) | (simp only [h138, h143, Bool.or_true, Bool.false_or]; done))
                have e_16 : (pbC n Cv ((Hd r) * 5) ((((To r) * 5) + ((Tp r) - 1)) * 5) (Bl r) (x + 1)) = (lowC (pbC n Cv ((Hd r) * 5) ((((To r) * 5) + ((Tp r) - 1)) * 5) (Bl r) x) (((Hd r) * 5) + x) (sm 1 ((pbC n Cv ((Hd r) * 5) ((((To r) * 5) + ((Tp r) - 1)) * 5) (Bl r) x) ((((To r) * 5 + ((Tp r) - 1)) * 5) + x)))) := by simp only [pbC, pbB]; repeat (first | rw [if_pos (by assumption)] | rw [if_neg (by assumption)]); try (first | rfl | (simp only [h138, Bool.true_or]; done) | (simp only [h138, h143, Bool.or_self]; done) | (simp only [h138, h143, Bool.or_true, Bool.false_or]; done))
                refine go_eq (lv' := [(6, .int (nI (x + 1))), (5, .int (bI (pbB n Cv ((Hd r) * 5) ((((To r) * 5) + ((Tp r) - 1)) * 5) (Bl r) (x + 1)))), (4, .int (nI (((To r) * 5 + ((Tp r) - 1)) * 5))), (3, .int (nI ((Hd r) * 5))), (0, .ref k0), (1, .ref h0), (2, .int (nI r))]) (ws' := [ob k0 3 [.ref ql, .int (oI sn)], aL (eY E) ql 125 (pbC n Cv ((Hd r) * 5) ((((To r) * 5) + ((Tp r) - 1)) * 5) (Bl r) (x + 1)), ob h0 4 [.int (nI n), .int (nI m), .int (nI z), .int (nI st), .ref qh, .ref qt, .ref qp, .ref qb], aN (eY E) qh 30 Hd, aN (eY E) qt 30 To, aO (eY E) qp 30 Tp, aO (eY E) qb 30 Bl]) (by first | rfl | (simp only [e_15, e_16, oI_s, oI_0]; first | done | rfl)) rfl (by first | rfl | (simp only [e_15, e_16, oI_s, oI_0]; first | done | rfl)) ?_
                exact ih_x (by omega)
    have e_17 : (pbB n Cv ((Hd r) * 5) ((((To r) * 5) + ((Tp r) - 1)) * 5) (Bl r) 0) = false := by rfl
    have e_18 : (pbC n Cv ((Hd r) * 5) ((((To r) * 5) + ((Tp r) - 1)) * 5) (Bl r) 0) = Cv := by rfl
    refine go_eq (lv' := [(6, .int (nI 0)), (5, .int (bI (pbB n Cv ((Hd r) * 5) ((((To r) * 5) + ((Tp r) - 1)) * 5) (Bl r) 0))), (4, .int (nI (((To r) * 5 + ((Tp r) - 1)) * 5))), (3, .int (nI ((Hd r) * 5))), (0, .ref k0), (1, .ref h0), (2, .int (nI r))]) (ws' := [ob k0 3 [.ref ql, .int (oI sn)], aL (eY E) ql 125 (pbC n Cv ((Hd r) * 5) ((((To r) * 5) + ((Tp r) - 1)) * 5) (Bl r) 0), ob h0 4 [.int (nI n), .int (nI m), .int (nI z), .int (nI st), .ref qh, .ref qt, .ref qp, .ref qb], aN (eY E) qh 30 Hd, aN (eY E) qt 30 To, aO (eY E) qp 30 Tp, aO (eY E) qb 30 Bl]) (by first | rfl | (simp only [e_17, e_18, oI_s, oI_0]; first | done | rfl)) rfl (by first | rfl | (simp only [e_17, e_18, oI_s, oI_0]; first | done | rfl)) ?_
    exact L58 0 (by omega)
  · intro h16
    have h16 : Tp r = 0 := Decidable.not_not.mp h16
    refine g_aload_n C dX3_lowerBy_19 rfl 20 rfl 1 rfl ?_
    refine g_iload_n C dX3_lowerBy_20 rfl 21 rfl 0 rfl ?_
    refine g_aload_n C dX3_lowerBy_21 rfl 22 rfl 2 rfl ?_
    refine g_getN C iX4 2 rfl rfl 5 (by decide) (nf_RX3_46 C.2.2.1 _) rfl dX3_lowerBy_22 25 rfl ?_
    refine g_iload_n C dX3_lowerBy_25 rfl 26 rfl 3 rfl ?_
    refine g_iald (i := r) C 4 rfl (by omega) (by decide) dX3_lowerBy_26 27 rfl ?_
    refine g_iadd (z := nI (((Hd r) * 5) + (To r))) C dX3_lowerBy_27 28 rfl (nI_add _ _) ?_
    refine g_lconst (v := lN 1) C dX3_lowerBy_28 (by decide) 29 rfl ?_
    refine g_cVi (ws2 := [ob k0 3 [.ref ql, .int (oI sn)], aL (eY E) ql 125 (lowC Cv (((Hd r) * 5) + (To r)) 1), ob h0 4 [.int (nI n), .int (nI m), .int (nI z), .int (nI st), .ref qh, .ref qt, .ref qp, .ref qb], aN (eY E) qh 30 Hd, aN (eY E) qt 30 To, aO (eY E) qp 30 Tp, aO (eY E) qb 30 Bl]) (As := [.int (nI (((Hd r) * 5) + (To r))), .long (lN 1)]) (st := []) (wsc := [ob k0 3 [.ref ql, .int (oI sn)], aL (eY E) ql 125 Cv]) (wr := [ob h0 4 [.int (nI n), .int (nI m), .int (nI z), .int (nI st), .ref qh, .ref qt, .ref qp, .ref qb], aN (eY E) qh 30 Hd, aN (eY E) qt 30 To, aO (eY E) qp 30 Tp, aO (eY E) qb 30 Bl]) C (c_X3_lower (eL E) (eD E) (eY E) k0 ql sn Cv (((Hd r) * 5) + (To r)) 1 (by first | assumption | exact prC_ok (by assumption) _ _ _ _ | exact pbC_ok (by assumption) _ _ _ _ | exact rdC_ok (by assumption) _ | exact itC_ok _) (by omega) (by first | exact sm_ok _ _ | omega)) 2 gX3_lowerBy_X3_lower rfl (by decide +kernel) (by decide) ⟨Nat.zero_le _, Nat.zero_le _⟩ rfl 0 rfl rfl rfl (Nat.le_of_ble_eq_true rfl) [0, 1] [2, 3, 4, 5, 6] [5, 6, 0, 1, 2, 3, 4] rfl rfl (by decide) (by decide) rfl (by decide) dX3_lowerBy_29 32 rfl ?_
    have e_19 : (byB n Hd To Tp Bl Cv r) = (lowB Cv (((Hd r) * 5) + (To r)) 1) := by simp [byC, byB, *]
    have e_20 : (byC n Hd To Tp Bl Cv r) = (lowC Cv (((Hd r) * 5) + (To r)) 1) := by simp [byC, byB, *]
    refine go_eq rfl (st' := [.int (bI (byB n Hd To Tp Bl Cv r))]) (ws' := [ob k0 3 [.ref ql, .int (oI sn)], aL (eY E) ql 125 (byC n Hd To Tp Bl Cv r), ob h0 4 [.int (nI n), .int (nI m), .int (nI z), .int (nI st), .ref qh, .ref qt, .ref qp, .ref qb], aN (eY E) qh 30 Hd, aN (eY E) qt 30 To, aO (eY E) qp 30 Tp, aO (eY E) qb 30 Bl]) (by first | rfl | (simp only [e_19, e_20, oI_s, oI_0]; first | done | rfl)) (by first | rfl | (simp only [e_19, e_20, oI_s, oI_0]; first | done | rfl)) ?_
    exact hret _ _ dX3_lowerBy_32
set_option maxHeartbeats 4000000 in
set_option maxRecDepth 100000 in
theorem c_X3_renew (l : Launch) (D : va_G) (cy : Nat → ClassId) (k0 : Nat) (ql : Nat) (sn : Nat) (Cv : Nat → Nat) (h0 : Nat) (n : Nat) (m : Nat) (z : Nat) (st : Nat) (qh : Nat) (qt : Nat) (qp : Nat) (qb : Nat) (Hd : Nat → Nat) (To : Nat → Nat) (Tp : Nat → Nat) (Bl : Nat → Nat) (hC : okf Cv) (hru : ruOK n z Hd To Tp Bl) (hs : sn < 1000) (hst : st < 1000) : CoV l yX3_renew wsX3_renew 4 102 D cy [ob k0 3 [.ref ql, .int (oI sn)], aL cy ql 125 Cv, ob h0 4 [.int (nI n), .int (nI m), .int (nI z), .int (nI st), .ref qh, .ref qt, .ref qp, .ref qb], aN cy qh 30 Hd, aN cy qt 30 To, aO cy qp 30 Tp, aO cy qb 30 Bl] [.ref k0, .ref h0] [ob k0 3 [.ref ql, .int (oI (st + 1))], aL cy ql 125 (if sn = st + 1 then Cv else itC n z Hd To Tp Bl 126), ob h0 4 [.int (nI n), .int (nI m), .int (nI z), .int (nI st), .ref qh, .ref qt, .ref qp, .ref qb], aN cy qh 30 Hd, aN cy qt 30 To, aO cy qp 30 Tp, aO cy qb 30 Bl] := by
  refine met_v (cc := cX3_renew) (maxL := 5) (own := RX3) (lv := [(0, .ref k0), (1, .ref h0)]) (by decide) rfl rfl rfl (Nat.le_of_ble_eq_true rfl) (fun E e1 e2 e3 C hret => ?_)
  subst e1; subst e2; subst e3
  have iX3 : ∀ w ∈ wsX30, w ∈ wsX3_renew := fun _ h => List.mem_cons_of_mem _ (List.mem_append_left _ (List.mem_append_right _ h))
  have iX4 : ∀ w ∈ wsX40, w ∈ wsX3_renew := fun _ h => List.mem_cons_of_mem _ (List.mem_append_right _ h)
  obtain ⟨hn, hz, hR⟩ := id hru
  refine g_aload_n C dX3_renew_0 rfl 1 rfl 0 rfl ?_
  refine g_get C iX3 0 rfl rfl 1 (by decide) (C.1.2.2.2.2 (.fieldLink RX3 15 "StackRuns$Pops" "seen" "I") (List.mem_of_getElem? (i := 1) rfl)) rfl dX3_renew_1 4 rfl ?_
  refine g_aload_n C dX3_renew_4 rfl 5 rfl 1 rfl ?_
  refine g_getN C iX4 2 rfl rfl 3 (by decide) (nf_RX3_19 C.2.2.1 _) rfl dX3_renew_5 8 rfl ?_
  refine g_icmp_ne (X := ¬ sn = st + 1) C dX3_renew_8 12 (by decide) 11 rfl (not_congr (oI_nI (by omega) (by omega))) ?_ ?_
  · intro h8
    refine g_aload_n C dX3_renew_12 rfl 13 rfl 0 rfl ?_
    refine g_aload_n C dX3_renew_13 rfl 14 rfl 1 rfl ?_
    refine g_getN C iX4 2 rfl rfl 3 (by decide) (nf_RX3_19 C.2.2.1 _) rfl dX3_renew_14 17 rfl ?_
    refine go_st (show Value.int (nI st) = .int (oI (st + 1)) from (by rw [oI_s])) ?_
    refine g_put (ws' := [ob k0 3 [.ref ql, .int (oI (st + 1))], aL (eY E) ql 125 Cv, ob h0 4 [.int (nI n), .int (nI m), .int (nI z), .int (nI st), .ref qh, .ref qt, .ref qp, .ref qb], aN (eY E) qh 30 Hd, aN (eY E) qt 30 To, aO (eY E) qp 30 Tp, aO (eY E) qb 30 Bl]) (ty := .int) C iX3 tyX3_ok nmX3 0 rfl rfl 1 (by decide) (C.1.2.2.2.2 (.fieldLink RX3 15 "StackRuns$Pops" "seen" "I") (List.mem_of_getElem? (i := 1) rfl)) rfl (by decide +kernel) rfl rfl (Nat.le_of_ble_eq_true rfl) dX3_renew_17 20 rfl rfl ?_
    refine g_aload_n C dX3_renew_20 rfl 21 rfl 0 rfl ?_
    refine g_get C iX3 0 rfl rfl 0 (by decide) (C.1.2.2.2.2 (.fieldLink RX3 9 "StackRuns$Pops" "least" "[J") (List.mem_of_getElem? (i := 2) rfl)) rfl dX3_renew_21 24 rfl ?_
    refine g_ldc2 (v' := (lN 9000000000000000000)) C (C.1.2.2.2.2 (.constantLong RX3 24 (9000000000000000000)) (List.mem_of_getElem? (i := 3) rfl)) (by decide) dX3_renew_24 27 rfl ?_
    refine g_cSv (ws2 := [ob k0 3 [.ref ql, .int (oI (st + 1))], aL (eY E) ql 125 (fun _ => 9000000000000000000), ob h0 4 [.int (nI n), .int (nI m), .int (nI z), .int (nI st), .ref qh, .ref qt, .ref qp, .ref qb], aN (eY E) qh 30 Hd, aN (eY E) qt 30 To, aO (eY E) qp 30 Tp, aO (eY E) qb 30 Bl]) (As := [.ref ql, .long (lN 9000000000000000000)]) (st := []) (wsc := [aL (eY E) ql 125 Cv]) (wr := [ob k0 3 [.ref ql, .int (oI (st + 1))], ob h0 4 [.int (nI n), .int (nI m), .int (nI z), .int (nI st), .ref qh, .ref qt, .ref qp, .ref qb], aN (eY E) qh 30 Hd, aN (eY E) qt 30 To, aO (eY E) qp 30 Tp, aO (eY E) qb 30 Bl]) C (c_J7_fill_d0a16 (eL E) (eD E) (eY E) ql 125 Cv 9000000000000000000 (by decide)) 2 gX3_renew_J7_fill_d0a16 rfl (by decide +kernel) (by decide) ⟨Nat.zero_le _, Nat.zero_le _⟩ rfl rfl (Nat.le_of_ble_eq_true rfl) [1] [0, 2, 3, 4, 5, 6] [0, 6, 1, 2, 3, 4, 5] rfl rfl (by decide) (by decide) rfl (by decide) dX3_renew_27 30 rfl ?_
    refine g_iconst (v := nI 1) C dX3_renew_30 (by decide) 31 rfl ?_
    refine g_istore_n (lv' := [(2, .int (nI 1)), (0, .ref k0), (1, .ref h0)]) C dX3_renew_31 rfl 32 rfl (by decide) rfl ?_
    refine g_iconst (v := nI 0) C dX3_renew_32 (by decide) 33 rfl ?_
    refine g_istore_n (lv' := [(3, .int (nI 0)), (2, .int (nI 1)), (0, .ref k0), (1, .ref h0)]) C dX3_renew_33 rfl 34 rfl (by decide) rfl ?_
    have L34 : ∀ t, t ≤ 126 → (0 < t → True) → Go E 0 0 34 [(3, .int (nI t)), (2, .int (bI (itB n z Hd To Tp Bl t))), (0, .ref k0), (1, .ref h0)] [] [ob k0 3 [.ref ql, .int (oI (st + 1))], aL (eY E) ql 125 (itC n z Hd To Tp Bl t), ob h0 4 [.int (nI n), .int (nI m), .int (nI z), .int (nI st), .ref qh, .ref qt, .ref qp, .ref qb], aN (eY E) qh 30 Hd, aN (eY E) qt 30 To, aO (eY E) qp 30 Tp, aO (eY E) qb 30 Bl] := by
      refine go_for 126 (fun t => (0 < t → True) → Go E 0 0 34 [(3, .int (nI t)), (2, .int (bI (itB n z Hd To Tp Bl t))), (0, .ref k0), (1, .ref h0)] [] [ob k0 3 [.ref ql, .int (oI (st + 1))], aL (eY E) ql 125 (itC n z Hd To Tp Bl t), ob h0 4 [.int (nI n), .int (nI m), .int (nI z), .int (nI st), .ref qh, .ref qt, .ref qp, .ref qb], aN (eY E) qh 30 Hd, aN (eY E) qt 30 To, aO (eY E) qp 30 Tp, aO (eY E) qb 30 Bl]) (fun t hi_t ih_t => ?_)
      intro ht
      have hX := itC_ok (n := n) (z := z) (Hd := Hd) (To := To) (Tp := Tp) (Bl := Bl) t
      refine g_iload_n C dX3_renew_34 rfl 35 rfl 1 rfl ?_
      refine g_if_eq (X := itB n z Hd To Tp Bl t = false) C dX3_renew_35 93 (by decide) 38 rfl (bI_eq0 _) ?_ ?_
      · intro h35
        have e_1 : (if sn = st + 1 then Cv else itC n z Hd To Tp Bl 126) = (itC n z Hd To Tp Bl t) := by first | (rw [if_neg (by assumption), itC_stop (t := t) hi_t h35]; done) | (rw [if_neg (by assumption), show t = 126 from by omega])
        refine go_eq rfl (st' := []) (ws' := [ob k0 3 [.ref ql, .int (oI (st + 1))], aL (eY E) ql 125 (if sn = st + 1 then Cv else itC n z Hd To Tp Bl 126), ob h0 4 [.int (nI n), .int (nI m), .int (nI z), .int (nI st), .ref qh, .ref qt, .ref qp, .ref qb], aN (eY E) qh 30 Hd, aN (eY E) qt 30 To, aO (eY E) qp 30 Tp, aO (eY E) qb 30 Bl]) (by first | rfl | (simp only [e_1, oI_s, oI_0]; first | done | rfl)) (by first | rfl | (simp only [e_1, oI_s, oI_0]; first | done | rfl)) ?_
        exact hret _ _ dX3_renew_93
      · intro h35
        have h35 : itB n z Hd To Tp Bl t = true := by simpa using h35
        refine g_iload_n C dX3_renew_38 rfl 39 rfl 0 rfl ?_
        refine g_aload_n C dX3_renew_39 rfl 40 rfl 2 rfl ?_
        refine g_get C iX3 0 rfl rfl 0 (by decide) (C.1.2.2.2.2 (.fieldLink RX3 9 "StackRuns$Pops" "least" "[J") (List.mem_of_getElem? (i := 2) rfl)) rfl dX3_renew_40 43 rfl ?_
        refine g_alenL C 1 rfl dX3_renew_43 44 rfl ?_
        refine g_icmp_gt (X := 125 < t) C dX3_renew_44 93 (by decide) 47 rfl (nI_ltI (by omega) (by omega)) ?_ ?_
        · intro h44
          have e_2 : (if sn = st + 1 then Cv else itC n z Hd To Tp Bl 126) = (itC n z Hd To Tp Bl t) := by first | (rw [if_neg (by assumption), itC_stop (t := t) hi_t h35]; done) | (rw [if_neg (by assumption), show t = 126 from by omega])
          refine go_eq rfl (st' := []) (ws' := [ob k0 3 [.ref ql, .int (oI (st + 1))], aL (eY E) ql 125 (if sn = st + 1 then Cv else itC n z Hd To Tp Bl 126), ob h0 4 [.int (nI n), .int (nI m), .int (nI z), .int (nI st), .ref qh, .ref qt, .ref qp, .ref qb], aN (eY E) qh 30 Hd, aN (eY E) qt 30 To, aO (eY E) qp 30 Tp, aO (eY E) qb 30 Bl]) (by first | rfl | (simp only [e_2, oI_s, oI_0]; first | done | rfl)) (by first | rfl | (simp only [e_2, oI_s, oI_0]; first | done | rfl)) ?_
          exact hret _ _ dX3_renew_93
        · intro h44
          refine g_iconst (v := nI 0) C dX3_renew_47 (by decide) 48 rfl ?_
          refine g_istore_n (lv' := [(2, .int (nI 0)), (3, .int (nI t)), (0, .ref k0), (1, .ref h0)]) C dX3_renew_48 rfl 49 rfl (by decide) rfl ?_
          refine g_iconst (v := nI 0) C dX3_renew_49 (by decide) 50 rfl ?_
          refine g_istore (lv' := [(4, .int (nI 0)), (2, .int (nI 0)), (3, .int (nI t)), (0, .ref k0), (1, .ref h0)]) C dX3_renew_50 52 rfl (by decide) rfl ?_
          have L52 : ∀ r, r ≤ z → Go E 0 0 52 [(4, .int (nI r)), (2, .int (bI (rdB n Hd To Tp Bl (itC n z Hd To Tp Bl t) r))), (3, .int (nI t)), (0, .ref k0), (1, .ref h0)] [] [ob k0 3 [.ref ql, .int (oI (st + 1))], aL (eY E) ql 125 (rdC n Hd To Tp Bl (itC n z Hd To Tp Bl t) r), ob h0 4 [.int (nI n), .int (nI m), .int (nI z), .int (nI st), .ref qh, .ref qt, .ref qp, .ref qb], aN (eY E) qh 30 Hd, aN (eY E) qt 30 To, aO (eY E) qp 30 Tp, aO (eY E) qb 30 Bl] := by
            refine go_for z (fun r => Go E 0 0 52 [(4, .int (nI r)), (2, .int (bI (rdB n Hd To Tp Bl (itC n z Hd To Tp Bl t) r))), (3, .int (nI t)), (0, .ref k0), (1, .ref h0)] [] [ob k0 3 [.ref ql, .int (oI (st + 1))], aL (eY E) ql 125 (rdC n Hd To Tp Bl (itC n z Hd To Tp Bl t) r), ob h0 4 [.int (nI n), .int (nI m), .int (nI z), .int (nI st), .ref qh, .ref qt, .ref qp, .ref qb], aN (eY E) qh 30 Hd, aN (eY E) qt 30 To, aO (eY E) qp 30 Tp, aO (eY E) qb 30 Bl]) (fun r hi_r ih_r => ?_)
            have hY := rdC_ok (n := n) (Hd := Hd) (To := To) (Tp := Tp) (Bl := Bl) hX r
            refine g_iload C dX3_renew_52 54 rfl 0 rfl ?_
            refine g_aload_n C dX3_renew_54 rfl 55 rfl 4 rfl ?_
            refine g_getN C iX4 2 rfl rfl 2 (by decide) (nf_RX3_32 C.2.2.1 _) rfl dX3_renew_55 58 rfl ?_
            refine g_icmp_ge (X := z ≤ r) C dX3_renew_58 87 (by decide) 61 rfl (nI_leI (by omega) (by omega)) ?_ ?_
            · intro h58
              have x_r : r = z := by omega
              try rw [x_r]
              refine g_iinc (lv' := [(3, .int (nI (t + 1))), (4, .int (nI z)), (2, .int (bI (rdB n Hd To Tp Bl (itC n z Hd To Tp Bl t) z))), (0, .ref k0), (1, .ref h0)]) C dX3_renew_87 90 rfl 2 rfl (by decide) rfl ?_
              refine g_goto C dX3_renew_90 34 (by decide) ?_
              refine go_lv (lv' := [(3, .int (nI (t + 1))), (2, .int (bI (rdB n Hd To Tp Bl (itC n z Hd To Tp Bl t) z))), (0, .ref k0), (1, .ref h0)]) [0, 2, 3, 4] rfl ?_
              have e_3 : (itB n z Hd To Tp Bl (t + 1)) = (rdB n Hd To Tp Bl (itC n z Hd To Tp Bl t) z) := by simp [itC, itB, *]
              have e_4 : (itC n z Hd To Tp Bl (t + 1)) = (rdC n Hd To Tp Bl (itC n z Hd To Tp Bl t) z) := by simp [itC, itB, *]
              refine go_eq (lv' := [(3, .int (nI (t + 1))), (2, .int (bI (itB n z Hd To Tp Bl (t + 1)))), (0, .ref k0), (1, .ref h0)]) (ws' := [ob k0 3 [.ref ql, .int (oI (st + 1))], aL (eY E) ql 125 (itC n z Hd To Tp Bl (t + 1)), ob h0 4 [.int (nI n), .int (nI m), .int (nI z), .int (nI st), .ref qh, .ref qt, .ref qp, .ref qb], aN (eY E) qh 30 Hd, aN (eY E) qt 30 To, aO (eY E) qp 30 Tp, aO (eY E) qb 30 Bl]) (by first | rfl | (simp only [e_3, e_4, oI_s, oI_0]; first | done | rfl)) rfl (by first | rfl | (simp only [e_3, e_4, oI_s, oI_0]; first | done | rfl)) ?_
              exact ih_t (by omega) (by intro _; trivial)
            · intro h58
              refine g_aload_n C dX3_renew_61 rfl 62 rfl 3 rfl ?_
              refine g_aload_n C dX3_renew_62 rfl 63 rfl 4 rfl ?_
              refine g_iload C dX3_renew_63 65 rfl 0 rfl ?_
              refine g_cVi (ws2 := [ob k0 3 [.ref ql, .int (oI (st + 1))], aL (eY E) ql 125 (byC n Hd To Tp Bl (rdC n Hd To Tp Bl (itC n z Hd To Tp Bl t) r) r), ob h0 4 [.int (nI n), .int (nI m), .int (nI z), .int (nI st), .ref qh, .ref qt, .ref qp, .ref qb], aN (eY E) qh 30 Hd, aN (eY E) qt 30 To, aO (eY E) qp 30 Tp, aO (eY E) qb 30 Bl]) (As := [.ref h0, .int (nI r)]) (st := []) (wsc := [ob k0 3 [.ref ql, .int (oI (st + 1))], aL (eY E) ql 125 (rdC n Hd To Tp Bl (itC n z Hd To Tp Bl t) r), ob h0 4 [.int (nI n), .int (nI m), .int (nI z), .int (nI st), .ref qh, .ref qt, .ref qp, .ref qb], aN (eY E) qh 30 Hd, aN (eY E) qt 30 To, aO (eY E) qp 30 Tp, aO (eY E) qb 30 Bl]) (wr := []) C (c_X3_lowerBy (eL E) (eD E) (eY E) k0 ql (st + 1) (rdC n Hd To Tp Bl (itC n z Hd To Tp Bl t) r) h0 n m z st qh qt qp qb Hd To Tp Bl r (by first | assumption | exact prC_ok (by assumption) _ _ _ _ | exact pbC_ok (by assumption) _ _ _ _ | exact rdC_ok (by assumption) _ | exact itC_ok _) (by assumption) (by omega)) 2 gX3_renew_X3_lowerBy rfl (by decide +kernel) (by decide) ⟨Nat.zero_le _, Nat.zero_le _⟩ rfl 0 rfl rfl rfl (Nat.le_of_ble_eq_true rfl) [0, 1, 2, 3, 4, 5, 6] [] [0, 1, 2, 3, 4, 5, 6] rfl rfl (by decide) (by decide) rfl (by decide) dX3_renew_65 68 rfl ?_
              refine g_if_ne (X := byB n Hd To Tp Bl (rdC n Hd To Tp Bl (itC n z Hd To Tp Bl t) r) r = true) C dX3_renew_68 75 (by decide) 71 rfl (bI_ne0 _) ?_ ?_
              · intro h68
                refine g_iconst (v := nI 1) C dX3_renew_75 (by decide) 76 rfl ?_
                refine g_goto C dX3_renew_76 80 (by decide) ?_
                refine g_istore_n (lv' := [(2, .int (nI 1)), (4, .int (nI r)), (3, .int (nI t)), (0, .ref k0), (1, .ref h0)]) C dX3_renew_80 rfl 81 rfl (by decide) rfl ?_
                refine g_iinc (lv' := [(4, .int (nI (r + 1))), (2, .int (nI 1)), (3, .int (nI t)), (0, .ref k0), (1, .ref h0)]) C dX3_renew_81 84 rfl 1 rfl (by decide) rfl ?_
                refine g_goto C dX3_renew_84 52 (by decide) ?_
                have e_5 : (rdB n Hd To Tp Bl (itC n z Hd To Tp Bl t) (r + 1)) = true := by simp [rdC, rdB, *]
                have e_6 : (st + 1) = (st + 1) := by simp [rdC, rdB, *]
                have e_7 : (rdC n Hd To Tp Bl (itC n z Hd To Tp Bl t) (r + 1)) = (byC n Hd To Tp Bl (rdC n Hd To Tp Bl (itC n z Hd To Tp Bl t) r) r) := by simp [rdC, rdB, *]
                refine go_eq (lv' := [(4, .int (nI (r + 1))), (2, .int (bI (rdB n Hd To Tp Bl (itC n z Hd To Tp Bl t) (r + 1)))), (3, .int (nI t)), (0, .ref k0), (1, .ref h0)]) (ws' := [ob k0 3 [.ref ql, .int (oI (st + 1))], aL (eY E) ql 125 (rdC n Hd To Tp Bl (itC n z Hd To Tp Bl t) (r + 1)), ob h0 4 [.int (nI n), .int (nI m), .int (nI z), .int (nI st), .ref qh, .ref qt, .ref qp, .ref qb], aN (eY E) qh 30 Hd, aN (eY E) qt 30 To, aO (eY E) qp 30 Tp, aO (eY E) qb 30 Bl]) (by first | rfl | (simp only [e_5, e_6, e_7, oI_s, oI_0]; first | done | rfl)) rfl (by first | rfl | (simp only [e_5, e_6, e_7, oI_s, oI_0]; first | done | rfl)) ?_
                exact ih_r (by omega)
              · intro h68
                have h68 : byB n Hd To Tp Bl (rdC n Hd To Tp Bl (itC n z Hd To Tp Bl t) r) r = false := by simpa using h68
                refine g_iload_n C dX3_renew_71 rfl 72 rfl 1 rfl ?_
                refine g_if_eq (X := rdB n Hd To Tp Bl (itC n z Hd To Tp Bl t) r = false) C dX3_renew_72 79 (by decide) 75 rfl (bI_eq0 _) ?_ ?_
                · intro h72
                  refine g_iconst (v := nI 0) C dX3_renew_79 (by decide) 80 rfl ?_
                  refine g_istore_n (lv' := [(2, .int (nI 0)), (4, .int (nI r)), (3, .int (nI t)), (0, .ref k0), (1, .ref h0)]) C dX3_renew_80 rfl 81 rfl (by decide) rfl ?_
                  refine g_iinc (lv' := [(4, .int (nI (r + 1))), (2, .int (nI 0)), (3, .int (nI t)), (0, .ref k0), (1, .ref h0)]) C dX3_renew_81 84 rfl 1 rfl (by decide) rfl ?_
                  refine g_goto C dX3_renew_84 52 (by decide) ?_
                  have e_8 : (rdB n Hd To Tp Bl (itC n z Hd To Tp Bl t) (r + 1)) = false := by simp [rdC, rdB, *]
                  have e_9 : (st + 1) = (st + 1) := by simp [rdC, rdB, *]
                  have e_10 : (rdC n Hd To Tp Bl (itC n z Hd To Tp Bl t) (r + 1)) = (byC n Hd To Tp Bl (rdC n Hd To Tp Bl (itC n z Hd To Tp Bl t) r) r) := by simp [rdC, rdB, *]
                  refine go_eq (lv' := [(4, .int (nI (r + 1))), (2, .int (bI (rdB n Hd To Tp Bl (itC n z Hd To Tp Bl t) (r + 1)))), (3, .int (nI t)), (0, .ref k0), (1, .ref h0)]) (ws' := [ob k0 3 [.ref ql, .int (oI (st + 1))], aL (eY E) ql 125 (rdC n Hd To Tp Bl (itC n z Hd To Tp Bl t) (r + 1)), ob h0 4 [.int (nI n), .int (nI m), .int (nI z), .int (nI st), .ref qh, .ref qt, .ref qp, .ref qb], aN (eY E) qh 30 Hd, aN (eY E) qt 30 To, aO (eY E) qp 30 Tp, aO (eY E) qb 30 Bl]) (by first | rfl | (simp only [e_8, e_9, e_10, oI_s, oI_0]; first | done | rfl)) rfl (by first | rfl | (simp only [e_8, e_9, e_10, oI_s, oI_0]; first | done | rfl)) ?_
                  exact ih_r (by omega)
                · intro h72
                  have h72 : rdB n Hd To Tp Bl (itC n z Hd To Tp Bl t) r = true := by simpa using h72
                  refine g_iconst (v := nI 1) C dX3_renew_75 (by decide) 76 rfl ?_
                  refine g_goto C dX3_renew_76 80 (by decide) ?_
                  refine g_istore_n (lv' := [(2, .int (nI 1)), (4, .int (nI r)), (3, .int (nI t)), (0, .ref k0), (1, .ref h0)]) C dX3_renew_80 rfl 81 rfl (by decide) rfl ?_
                  refine g_iinc (lv' := [(4, .int (nI (r + 1))), (2, .int (nI 1)), (3, .int (nI t)), (0, .ref k0), (1, .ref h0)]) C dX3_renew_81 84 rfl 1 rfl (by decide) rfl ?_
                  refine g_goto C dX3_renew_84 52 (by decide) ?_
                  have e_11 : (rdB n Hd To Tp Bl (itC n z Hd To Tp Bl t) (r + 1)) = true := by simp [rdC, rdB, *]
                  have e_12 : (st + 1) = (st + 1) := by simp [rdC, rdB, *]
                  have e_13 : (rdC n Hd To Tp Bl (itC n z Hd To Tp Bl t) (r + 1)) = (byC n Hd To Tp Bl (rdC n Hd To Tp Bl (itC n z Hd To Tp Bl t) r) r) := by simp [rdC, rdB, *]
                  refine go_eq (lv' := [(4, .int (nI (r + 1))), (2, .int (bI (rdB n Hd To Tp Bl (itC n z Hd To Tp Bl t) (r + 1)))), (3, .int (nI t)), (0, .ref k0), (1, .ref h0)]) (ws' := [ob k0 3 [.ref ql, .int (oI (st + 1))], aL (eY E) ql 125 (rdC n Hd To Tp Bl (itC n z Hd To Tp Bl t) (r + 1)), ob h0 4 [.int (nI n), .int (nI m), .int (nI z), .int (nI st), .ref qh, .ref qt, .ref qp, .ref qb], aN (eY E) qh 30 Hd, aN (eY E) qt 30 To, aO (eY E) qp 30 Tp, aO (eY E) qb 30 Bl]) (by first | rfl | (simp only [e_11, e_12, e_13, oI_s, oI_0]; first | done | rfl)) rfl (by first | rfl | (simp only [e_11, e_12, e_13, oI_s, oI_0]; first | done | rfl)) ?_
                  exact ih_r (by omega)
          have e_14 : (rdB n Hd To Tp Bl (itC n z Hd To Tp Bl t) 0) = false := by rfl
          have e_15 : (rdC n Hd To Tp Bl (itC n z Hd To Tp Bl t) 0) = (itC n z Hd To Tp Bl t) := by rfl
          refine go_eq (lv' := [(4, .int (nI 0)), (2, .int (bI (rdB n Hd To Tp Bl (itC n z Hd To Tp Bl t) 0))), (3, .int (nI t)), (0, .ref k0), (1, .ref h0)]) (ws' := [ob k0 3 [.ref ql, .int (oI (st + 1))], aL (eY E) ql 125 (rdC n Hd To Tp Bl (itC n z Hd To Tp Bl t) 0), ob h0 4 [.int (nI n), .int (nI m), .int (nI z), .int (nI st), .ref qh, .ref qt, .ref qp, .ref qb], aN (eY E) qh 30 Hd, aN (eY E) qt 30 To, aO (eY E) qp 30 Tp, aO (eY E) qb 30 Bl]) (by first | rfl | (simp only [e_14, e_15, oI_s, oI_0]; first | done | rfl)) rfl (by first | rfl | (simp only [e_14, e_15, oI_s, oI_0]; first | done | rfl)) ?_
          exact L52 0 (by omega)
    have e_16 : (itB n z Hd To Tp Bl 0) = true := by rfl
    have e_17 : (itC n z Hd To Tp Bl 0) = (fun _ => 9000000000000000000) := by rfl
    refine go_eq (lv' := [(3, .int (nI 0)), (2, .int (bI (itB n z Hd To Tp Bl 0))), (0, .ref k0), (1, .ref h0)]) (ws' := [ob k0 3 [.ref ql, .int (oI (st + 1))], aL (eY E) ql 125 (itC n z Hd To Tp Bl 0), ob h0 4 [.int (nI n), .int (nI m), .int (nI z), .int (nI st), .ref qh, .ref qt, .ref qp, .ref qb], aN (eY E) qh 30 Hd, aN (eY E) qt 30 To, aO (eY E) qp 30 Tp, aO (eY E) qb 30 Bl]) (by first | rfl | (simp only [e_16, e_17, oI_s, oI_0]; first | done | rfl)) rfl (by first | rfl | (simp only [e_16, e_17, oI_s, oI_0]; first | done | rfl)) ?_
    exact L34 0 (by omega) (by intro _; trivial)
  · intro h8
    have h8 : sn = st + 1 := Decidable.not_not.mp h8
    have e_18 : (st + 1) = sn := by first | assumption | (rw [if_pos (by assumption)]) | omega
    have e_19 : (if sn = st + 1 then Cv else itC n z Hd To Tp Bl 126) = Cv := by first | assumption | (rw [if_pos (by assumption)]) | omega
    refine go_eq rfl (st' := []) (ws' := [ob k0 3 [.ref ql, .int (oI (st + 1))], aL (eY E) ql 125 (if sn = st + 1 then Cv else itC n z Hd To Tp Bl 126), ob h0 4 [.int (nI n), .int (nI m), .int (nI z), .int (nI st), .ref qh, .ref qt, .ref qp, .ref qb], aN (eY E) qh 30 Hd, aN (eY E) qt 30 To, aO (eY E) qp 30 Tp, aO (eY E) qb 30 Bl]) (by first | rfl | (simp only [e_18, e_19, oI_s, oI_0]; first | done | rfl)) (by first | rfl | (simp only [e_18, e_19, oI_s, oI_0]; first | done | rfl)) ?_
    exact hret _ _ dX3_renew_11
end
