section
-- ===== PART A: goes FIRST, ahead of the names: the tables' words, and 'selects' of the private methods out of them =====
/-- a private method of a class that the tables say can be made, by its rows of tables_1 -/
def lw_okq (q : MethodName × Nat) : Prop := (q.1.cls ≠ "java/lang/invoke/MethodHandle" ∧ q.1.cls ≠ "java/lang/invoke/VarHandle") ∧ Cond.instantiable q.1.cls q.2 ∈ tables_1 ∧ Cond.privateMethod q.1 ∈ tables_1 ∧ Cond.instanceMethod q.1 ∈ tables_1
theorem lw_p0 : lw_okq (⟨"DomeSlit", "renewed", "(LDomeSlit$Line;II)I"⟩, 17) := ⟨⟨by decide +kernel, by decide +kernel⟩, List.mem_of_getElem? (i := 16) (by decide +kernel), List.mem_of_getElem? (i := 235) (by decide +kernel), List.mem_of_getElem? (i := 236) (by decide +kernel)⟩
theorem lw_p1 : lw_okq (⟨"DomeSlit", "found", "(I)I"⟩, 17) := ⟨⟨by decide +kernel, by decide +kernel⟩, List.mem_of_getElem? (i := 16) (by decide +kernel), List.mem_of_getElem? (i := 243) (by decide +kernel), List.mem_of_getElem? (i := 244) (by decide +kernel)⟩
theorem lw_p2 : lw_okq (⟨"DomeSlit", "refusePlace", "(LDomeSlit$Line;I)I"⟩, 17) := ⟨⟨by decide +kernel, by decide +kernel⟩, List.mem_of_getElem? (i := 16) (by decide +kernel), List.mem_of_getElem? (i := 261) (by decide +kernel), List.mem_of_getElem? (i := 262) (by decide +kernel)⟩
theorem lw_p3 : lw_okq (⟨"DomeSlit", "refuseLine", "(LDomeSlit$Line;)I"⟩, 17) := ⟨⟨by decide +kernel, by decide +kernel⟩, List.mem_of_getElem? (i := 16) (by decide +kernel), List.mem_of_getElem? (i := 265) (by decide +kernel), List.mem_of_getElem? (i := 266) (by decide +kernel)⟩
theorem lw_p4 : lw_okq (⟨"DomeSlit$Reader", "skipBlanks", "(LDomeSlit$Line;)V"⟩, 6) := ⟨⟨by decide +kernel, by decide +kernel⟩, List.mem_of_getElem? (i := 26) (by decide +kernel), List.mem_of_getElem? (i := 342) (by decide +kernel), List.mem_of_getElem? (i := 343) (by decide +kernel)⟩
theorem lw_p5 : lw_okq (⟨"DomeSlit$Reader", "readDomeLetter", "(LDomeSlit$Line;)V"⟩, 6) := ⟨⟨by decide +kernel, by decide +kernel⟩, List.mem_of_getElem? (i := 26) (by decide +kernel), List.mem_of_getElem? (i := 348) (by decide +kernel), List.mem_of_getElem? (i := 349) (by decide +kernel)⟩
theorem lw_p6 : lw_okq (⟨"DomeSlit$Reader", "goOnIf", "(Z)V"⟩, 6) := ⟨⟨by decide +kernel, by decide +kernel⟩, List.mem_of_getElem? (i := 26) (by decide +kernel), List.mem_of_getElem? (i := 352) (by decide +kernel), List.mem_of_getElem? (i := 353) (by decide +kernel)⟩
theorem lw_p7 : lw_okq (⟨"DomeSlit$Reader", "figure", "(LDomeSlit$Line;II)I"⟩, 6) := ⟨⟨by decide +kernel, by decide +kernel⟩, List.mem_of_getElem? (i := 26) (by decide +kernel), List.mem_of_getElem? (i := 356) (by decide +kernel), List.mem_of_getElem? (i := 357) (by decide +kernel)⟩
theorem lw_p8 : lw_okq (⟨"DomeSlit$Reader", "placeFigures", "(LDomeSlit$Line;)I"⟩, 6) := ⟨⟨by decide +kernel, by decide +kernel⟩, List.mem_of_getElem? (i := 26) (by decide +kernel), List.mem_of_getElem? (i := 360) (by decide +kernel), List.mem_of_getElem? (i := 361) (by decide +kernel)⟩
theorem lw_p9 : lw_okq (⟨"DomeSlit$Reader", "readLight", "(LDomeSlit$Line;I)V"⟩, 6) := ⟨⟨by decide +kernel, by decide +kernel⟩, List.mem_of_getElem? (i := 26) (by decide +kernel), List.mem_of_getElem? (i := 364) (by decide +kernel), List.mem_of_getElem? (i := 365) (by decide +kernel)⟩
theorem lw_p10 : lw_okq (⟨"DomeSlit$Reader", "kindLetter", "(LDomeSlit$Line;)I"⟩, 6) := ⟨⟨by decide +kernel, by decide +kernel⟩, List.mem_of_getElem? (i := 26) (by decide +kernel), List.mem_of_getElem? (i := 368) (by decide +kernel), List.mem_of_getElem? (i := 369) (by decide +kernel)⟩
theorem lw_p11 : lw_okq (⟨"DomeSlit", "lightAt", "(I)LDomeSlit$Light;"⟩, 17) := ⟨⟨by decide +kernel, by decide +kernel⟩, List.mem_of_getElem? (i := 16) (by decide +kernel), List.mem_of_getElem? (i := 398) (by decide +kernel), List.mem_of_getElem? (i := 399) (by decide +kernel)⟩
theorem lw_p12 : lw_okq (⟨"DomeSlit", "factOf", "(LDomeSlit$Light;I)I"⟩, 17) := ⟨⟨by decide +kernel, by decide +kernel⟩, List.mem_of_getElem? (i := 16) (by decide +kernel), List.mem_of_getElem? (i := 402) (by decide +kernel), List.mem_of_getElem? (i := 403) (by decide +kernel)⟩
theorem lw_p13 : lw_okq (⟨"DomeSlit$Light", "movedBy", "(I)I"⟩, 4) := ⟨⟨by decide +kernel, by decide +kernel⟩, List.mem_of_getElem? (i := 53) (by decide +kernel), List.mem_of_getElem? (i := 418) (by decide +kernel), List.mem_of_getElem? (i := 419) (by decide +kernel)⟩
theorem lw_p14 : lw_okq (⟨"DomeSlit", "gainIn", "(LDomeSlit$Light;I)I"⟩, 17) := ⟨⟨by decide +kernel, by decide +kernel⟩, List.mem_of_getElem? (i := 16) (by decide +kernel), List.mem_of_getElem? (i := 444) (by decide +kernel), List.mem_of_getElem? (i := 445) (by decide +kernel)⟩
theorem lw_p15 : lw_okq (⟨"DomeSlit", "passMoment", "()I"⟩, 17) := ⟨⟨by decide +kernel, by decide +kernel⟩, List.mem_of_getElem? (i := 16) (by decide +kernel), List.mem_of_getElem? (i := 494) (by decide +kernel), List.mem_of_getElem? (i := 495) (by decide +kernel)⟩
def lw_privs_1 : List (MethodName × Nat) := [(⟨"DomeSlit", "renewed", "(LDomeSlit$Line;II)I"⟩, 17), (⟨"DomeSlit", "found", "(I)I"⟩, 17), (⟨"DomeSlit", "refusePlace", "(LDomeSlit$Line;I)I"⟩, 17), (⟨"DomeSlit", "refuseLine", "(LDomeSlit$Line;)I"⟩, 17), (⟨"DomeSlit$Reader", "skipBlanks", "(LDomeSlit$Line;)V"⟩, 6), (⟨"DomeSlit$Reader", "readDomeLetter", "(LDomeSlit$Line;)V"⟩, 6), (⟨"DomeSlit$Reader", "goOnIf", "(Z)V"⟩, 6), (⟨"DomeSlit$Reader", "figure", "(LDomeSlit$Line;II)I"⟩, 6), (⟨"DomeSlit$Reader", "placeFigures", "(LDomeSlit$Line;)I"⟩, 6), (⟨"DomeSlit$Reader", "readLight", "(LDomeSlit$Line;I)V"⟩, 6), (⟨"DomeSlit$Reader", "kindLetter", "(LDomeSlit$Line;)I"⟩, 6), (⟨"DomeSlit", "lightAt", "(I)LDomeSlit$Light;"⟩, 17), (⟨"DomeSlit", "factOf", "(LDomeSlit$Light;I)I"⟩, 17), (⟨"DomeSlit$Light", "movedBy", "(I)I"⟩, 4), (⟨"DomeSlit", "gainIn", "(LDomeSlit$Light;I)I"⟩, 17), (⟨"DomeSlit", "passMoment", "()I"⟩, 17)]
theorem lw_r1 : ∀ q ∈ lw_privs_1, lw_okq q := List.forall_mem_cons.mpr ⟨lw_p0, List.forall_mem_cons.mpr ⟨lw_p1, List.forall_mem_cons.mpr ⟨lw_p2, List.forall_mem_cons.mpr ⟨lw_p3, List.forall_mem_cons.mpr ⟨lw_p4, List.forall_mem_cons.mpr ⟨lw_p5, List.forall_mem_cons.mpr ⟨lw_p6, List.forall_mem_cons.mpr ⟨lw_p7, List.forall_mem_cons.mpr ⟨lw_p8, List.forall_mem_cons.mpr ⟨lw_p9, List.forall_mem_cons.mpr ⟨lw_p10, List.forall_mem_cons.mpr ⟨lw_p11, List.forall_mem_cons.mpr ⟨lw_p12, List.forall_mem_cons.mpr ⟨lw_p13, List.forall_mem_cons.mpr ⟨lw_p14, List.forall_mem_cons.mpr ⟨lw_p15, fun _ h => absurd h List.not_mem_nil⟩⟩⟩⟩⟩⟩⟩⟩⟩⟩⟩⟩⟩⟩⟩⟩
theorem lw_p16 : lw_okq (⟨"DomeSlit$Night", "note", "(I)V"⟩, 5) := ⟨⟨by decide +kernel, by decide +kernel⟩, List.mem_of_getElem? (i := 85) (by decide +kernel), List.mem_of_getElem? (i := 502) (by decide +kernel), List.mem_of_getElem? (i := 503) (by decide +kernel)⟩
theorem lw_p17 : lw_okq (⟨"DomeSlit", "overFor", "(LDomeSlit$Light;I)I"⟩, 17) := ⟨⟨by decide +kernel, by decide +kernel⟩, List.mem_of_getElem? (i := 16) (by decide +kernel), List.mem_of_getElem? (i := 578) (by decide +kernel), List.mem_of_getElem? (i := 579) (by decide +kernel)⟩
theorem lw_p18 : lw_okq (⟨"DomeSlit$Follower", "leastBehind", "(IIIZ)I"⟩, 4) := ⟨⟨by decide +kernel, by decide +kernel⟩, List.mem_of_getElem? (i := 118) (by decide +kernel), List.mem_of_getElem? (i := 613) (by decide +kernel), List.mem_of_getElem? (i := 614) (by decide +kernel)⟩
theorem lw_p19 : lw_okq (⟨"DomeSlit$Follower", "raiseMost", "(IIII)V"⟩, 4) := ⟨⟨by decide +kernel, by decide +kernel⟩, List.mem_of_getElem? (i := 118) (by decide +kernel), List.mem_of_getElem? (i := 645) (by decide +kernel), List.mem_of_getElem? (i := 646) (by decide +kernel)⟩
theorem lw_p20 : lw_okq (⟨"DomeSlit$Follower", "swapTables", "()V"⟩, 4) := ⟨⟨by decide +kernel, by decide +kernel⟩, List.mem_of_getElem? (i := 118) (by decide +kernel), List.mem_of_getElem? (i := 650) (by decide +kernel), List.mem_of_getElem? (i := 651) (by decide +kernel)⟩
theorem lw_p21 : lw_okq (⟨"DomeSlit", "refuseTurns", "(LDomeSlit$Line;)I"⟩, 17) := ⟨⟨by decide +kernel, by decide +kernel⟩, List.mem_of_getElem? (i := 16) (by decide +kernel), List.mem_of_getElem? (i := 658) (by decide +kernel), List.mem_of_getElem? (i := 659) (by decide +kernel)⟩
theorem lw_p22 : lw_okq (⟨"DomeSlit$Follower", "lowerOrders", "(IIII)V"⟩, 4) := ⟨⟨by decide +kernel, by decide +kernel⟩, List.mem_of_getElem? (i := 118) (by decide +kernel), List.mem_of_getElem? (i := 684) (by decide +kernel), List.mem_of_getElem? (i := 685) (by decide +kernel)⟩
theorem lw_p23 : lw_okq (⟨"DomeSlit", "guessed", "(III)I"⟩, 17) := ⟨⟨by decide +kernel, by decide +kernel⟩, List.mem_of_getElem? (i := 16) (by decide +kernel), List.mem_of_getElem? (i := 694) (by decide +kernel), List.mem_of_getElem? (i := 695) (by decide +kernel)⟩
theorem lw_p24 : lw_okq (⟨"DomeSlit", "refuseNotes", "(LDomeSlit$Line;)I"⟩, 17) := ⟨⟨by decide +kernel, by decide +kernel⟩, List.mem_of_getElem? (i := 16) (by decide +kernel), List.mem_of_getElem? (i := 698) (by decide +kernel), List.mem_of_getElem? (i := 699) (by decide +kernel)⟩
theorem lw_p25 : lw_okq (⟨"DomeSlit", "guessFits", "(LDomeSlit$Line;)Z"⟩, 17) := ⟨⟨by decide +kernel, by decide +kernel⟩, List.mem_of_getElem? (i := 16) (by decide +kernel), List.mem_of_getElem? (i := 708) (by decide +kernel), List.mem_of_getElem? (i := 709) (by decide +kernel)⟩
theorem lw_p26 : lw_okq (⟨"DomeSlit", "timesOver", "(LDomeSlit$Light;I)I"⟩, 17) := ⟨⟨by decide +kernel, by decide +kernel⟩, List.mem_of_getElem? (i := 16) (by decide +kernel), List.mem_of_getElem? (i := 728) (by decide +kernel), List.mem_of_getElem? (i := 729) (by decide +kernel)⟩
theorem lw_p27 : lw_okq (⟨"DomeSlit$Follower", "mostBehindClouds", "(III)I"⟩, 4) := ⟨⟨by decide +kernel, by decide +kernel⟩, List.mem_of_getElem? (i := 118) (by decide +kernel), List.mem_of_getElem? (i := 740) (by decide +kernel), List.mem_of_getElem? (i := 741) (by decide +kernel)⟩
theorem lw_p28 : lw_okq (⟨"DomeSlit", "bySleep", "(IIIZ)I"⟩, 17) := ⟨⟨by decide +kernel, by decide +kernel⟩, List.mem_of_getElem? (i := 16) (by decide +kernel), List.mem_of_getElem? (i := 748) (by decide +kernel), List.mem_of_getElem? (i := 749) (by decide +kernel)⟩
theorem lw_p29 : lw_okq (⟨"DomeSlit$Sleeper", "spread", "(II)V"⟩, 4) := ⟨⟨by decide +kernel, by decide +kernel⟩, List.mem_of_getElem? (i := 137) (by decide +kernel), List.mem_of_getElem? (i := 762) (by decide +kernel), List.mem_of_getElem? (i := 763) (by decide +kernel)⟩
theorem lw_p30 : lw_okq (⟨"DomeSlit$Sleeper", "gotAt", "(IZ)J"⟩, 4) := ⟨⟨by decide +kernel, by decide +kernel⟩, List.mem_of_getElem? (i := 137) (by decide +kernel), List.mem_of_getElem? (i := 767) (by decide +kernel), List.mem_of_getElem? (i := 768) (by decide +kernel)⟩
theorem lw_p31 : lw_okq (⟨"DomeSlit$Sleeper", "weightLeft", "()J"⟩, 4) := ⟨⟨by decide +kernel, by decide +kernel⟩, List.mem_of_getElem? (i := 137) (by decide +kernel), List.mem_of_getElem? (i := 772) (by decide +kernel), List.mem_of_getElem? (i := 773) (by decide +kernel)⟩
def lw_privs_2 : List (MethodName × Nat) := [(⟨"DomeSlit$Night", "note", "(I)V"⟩, 5), (⟨"DomeSlit", "overFor", "(LDomeSlit$Light;I)I"⟩, 17), (⟨"DomeSlit$Follower", "leastBehind", "(IIIZ)I"⟩, 4), (⟨"DomeSlit$Follower", "raiseMost", "(IIII)V"⟩, 4), (⟨"DomeSlit$Follower", "swapTables", "()V"⟩, 4), (⟨"DomeSlit", "refuseTurns", "(LDomeSlit$Line;)I"⟩, 17), (⟨"DomeSlit$Follower", "lowerOrders", "(IIII)V"⟩, 4), (⟨"DomeSlit", "guessed", "(III)I"⟩, 17), (⟨"DomeSlit", "refuseNotes", "(LDomeSlit$Line;)I"⟩, 17), (⟨"DomeSlit", "guessFits", "(LDomeSlit$Line;)Z"⟩, 17), (⟨"DomeSlit", "timesOver", "(LDomeSlit$Light;I)I"⟩, 17), (⟨"DomeSlit$Follower", "mostBehindClouds", "(III)I"⟩, 4), (⟨"DomeSlit", "bySleep", "(IIIZ)I"⟩, 17), (⟨"DomeSlit$Sleeper", "spread", "(II)V"⟩, 4), (⟨"DomeSlit$Sleeper", "gotAt", "(IZ)J"⟩, 4), (⟨"DomeSlit$Sleeper", "weightLeft", "()J"⟩, 4)]
theorem lw_r2 : ∀ q ∈ lw_privs_2, lw_okq q := List.forall_mem_cons.mpr ⟨lw_p16, List.forall_mem_cons.mpr ⟨lw_p17, List.forall_mem_cons.mpr ⟨lw_p18, List.forall_mem_cons.mpr ⟨lw_p19, List.forall_mem_cons.mpr ⟨lw_p20, List.forall_mem_cons.mpr ⟨lw_p21, List.forall_mem_cons.mpr ⟨lw_p22, List.forall_mem_cons.mpr ⟨lw_p23, List.forall_mem_cons.mpr ⟨lw_p24, List.forall_mem_cons.mpr ⟨lw_p25, List.forall_mem_cons.mpr ⟨lw_p26, List.forall_mem_cons.mpr ⟨lw_p27, List.forall_mem_cons.mpr ⟨lw_p28, List.forall_mem_cons.mpr ⟨lw_p29, List.forall_mem_cons.mpr ⟨lw_p30, List.forall_mem_cons.mpr ⟨lw_p31, fun _ h => absurd h List.not_mem_nil⟩⟩⟩⟩⟩⟩⟩⟩⟩⟩⟩⟩⟩⟩⟩⟩
theorem lw_p32 : lw_okq (⟨"DomeSlit", "tellChances", "(JJ)V"⟩, 17) := ⟨⟨by decide +kernel, by decide +kernel⟩, List.mem_of_getElem? (i := 16) (by decide +kernel), List.mem_of_getElem? (i := 780) (by decide +kernel), List.mem_of_getElem? (i := 781) (by decide +kernel)⟩
theorem lw_p33 : lw_okq (⟨"DomeSlit", "counted", "(I)I"⟩, 17) := ⟨⟨by decide +kernel, by decide +kernel⟩, List.mem_of_getElem? (i := 16) (by decide +kernel), List.mem_of_getElem? (i := 816) (by decide +kernel), List.mem_of_getElem? (i := 817) (by decide +kernel)⟩
theorem lw_p34 : lw_okq (⟨"DomeSlit", "lightsOf", "(I)I"⟩, 17) := ⟨⟨by decide +kernel, by decide +kernel⟩, List.mem_of_getElem? (i := 16) (by decide +kernel), List.mem_of_getElem? (i := 824) (by decide +kernel), List.mem_of_getElem? (i := 825) (by decide +kernel)⟩
theorem lw_p35 : lw_okq (⟨"DomeSlit", "keptThere", "()I"⟩, 17) := ⟨⟨by decide +kernel, by decide +kernel⟩, List.mem_of_getElem? (i := 16) (by decide +kernel), List.mem_of_getElem? (i := 831) (by decide +kernel), List.mem_of_getElem? (i := 832) (by decide +kernel)⟩
theorem lw_p36 : lw_okq (⟨"DomeSlitModel", "find", "(I)I"⟩, 33) := ⟨⟨by decide +kernel, by decide +kernel⟩, List.mem_of_getElem? (i := 858) (by decide +kernel), List.mem_of_getElem? (i := 975) (by decide +kernel), List.mem_of_getElem? (i := 976) (by decide +kernel)⟩
theorem lw_p37 : lw_okq (⟨"DomeSlitModel", "makeRow", "(II)V"⟩, 33) := ⟨⟨by decide +kernel, by decide +kernel⟩, List.mem_of_getElem? (i := 858) (by decide +kernel), List.mem_of_getElem? (i := 979) (by decide +kernel), List.mem_of_getElem? (i := 980) (by decide +kernel)⟩
theorem lw_p38 : lw_okq (⟨"DomeSlitModel", "refused", "(II)I"⟩, 33) := ⟨⟨by decide +kernel, by decide +kernel⟩, List.mem_of_getElem? (i := 858) (by decide +kernel), List.mem_of_getElem? (i := 987) (by decide +kernel), List.mem_of_getElem? (i := 988) (by decide +kernel)⟩
theorem lw_p39 : lw_okq (⟨"DomeSlitModel", "tell", "(I)I"⟩, 33) := ⟨⟨by decide +kernel, by decide +kernel⟩, List.mem_of_getElem? (i := 858) (by decide +kernel), List.mem_of_getElem? (i := 991) (by decide +kernel), List.mem_of_getElem? (i := 992) (by decide +kernel)⟩
theorem lw_p40 : lw_okq (⟨"DomeSlitModel", "isSpan", "(III)Z"⟩, 33) := ⟨⟨by decide +kernel, by decide +kernel⟩, List.mem_of_getElem? (i := 858) (by decide +kernel), List.mem_of_getElem? (i := 1007) (by decide +kernel), List.mem_of_getElem? (i := 1008) (by decide +kernel)⟩
theorem lw_p41 : lw_okq (⟨"DomeSlitModel", "faultOf", "(I)I"⟩, 33) := ⟨⟨by decide +kernel, by decide +kernel⟩, List.mem_of_getElem? (i := 858) (by decide +kernel), List.mem_of_getElem? (i := 1031) (by decide +kernel), List.mem_of_getElem? (i := 1032) (by decide +kernel)⟩
theorem lw_p42 : lw_okq (⟨"DomeSlitModel", "readsSlit", "()Z"⟩, 33) := ⟨⟨by decide +kernel, by decide +kernel⟩, List.mem_of_getElem? (i := 858) (by decide +kernel), List.mem_of_getElem? (i := 1035) (by decide +kernel), List.mem_of_getElem? (i := 1036) (by decide +kernel)⟩
theorem lw_p43 : lw_okq (⟨"DomeSlitModel", "skip", "()V"⟩, 33) := ⟨⟨by decide +kernel, by decide +kernel⟩, List.mem_of_getElem? (i := 858) (by decide +kernel), List.mem_of_getElem? (i := 1039) (by decide +kernel), List.mem_of_getElem? (i := 1040) (by decide +kernel)⟩
theorem lw_p44 : lw_okq (⟨"DomeSlitModel", "here", "()I"⟩, 33) := ⟨⟨by decide +kernel, by decide +kernel⟩, List.mem_of_getElem? (i := 858) (by decide +kernel), List.mem_of_getElem? (i := 1043) (by decide +kernel), List.mem_of_getElem? (i := 1044) (by decide +kernel)⟩
theorem lw_p45 : lw_okq (⟨"DomeSlitModel", "figure", "(II)I"⟩, 33) := ⟨⟨by decide +kernel, by decide +kernel⟩, List.mem_of_getElem? (i := 858) (by decide +kernel), List.mem_of_getElem? (i := 1047) (by decide +kernel), List.mem_of_getElem? (i := 1048) (by decide +kernel)⟩
theorem lw_p46 : lw_okq (⟨"DomeSlitModel", "figures", "()I"⟩, 33) := ⟨⟨by decide +kernel, by decide +kernel⟩, List.mem_of_getElem? (i := 858) (by decide +kernel), List.mem_of_getElem? (i := 1051) (by decide +kernel), List.mem_of_getElem? (i := 1052) (by decide +kernel)⟩
theorem lw_p47 : lw_okq (⟨"DomeSlitModel", "readsLight", "()Z"⟩, 33) := ⟨⟨by decide +kernel, by decide +kernel⟩, List.mem_of_getElem? (i := 858) (by decide +kernel), List.mem_of_getElem? (i := 1055) (by decide +kernel), List.mem_of_getElem? (i := 1056) (by decide +kernel)⟩
def lw_privs_3 : List (MethodName × Nat) := [(⟨"DomeSlit", "tellChances", "(JJ)V"⟩, 17), (⟨"DomeSlit", "counted", "(I)I"⟩, 17), (⟨"DomeSlit", "lightsOf", "(I)I"⟩, 17), (⟨"DomeSlit", "keptThere", "()I"⟩, 17), (⟨"DomeSlitModel", "find", "(I)I"⟩, 33), (⟨"DomeSlitModel", "makeRow", "(II)V"⟩, 33), (⟨"DomeSlitModel", "refused", "(II)I"⟩, 33), (⟨"DomeSlitModel", "tell", "(I)I"⟩, 33), (⟨"DomeSlitModel", "isSpan", "(III)Z"⟩, 33), (⟨"DomeSlitModel", "faultOf", "(I)I"⟩, 33), (⟨"DomeSlitModel", "readsSlit", "()Z"⟩, 33), (⟨"DomeSlitModel", "skip", "()V"⟩, 33), (⟨"DomeSlitModel", "here", "()I"⟩, 33), (⟨"DomeSlitModel", "figure", "(II)I"⟩, 33), (⟨"DomeSlitModel", "figures", "()I"⟩, 33), (⟨"DomeSlitModel", "readsLight", "()Z"⟩, 33)]
theorem lw_r3 : ∀ q ∈ lw_privs_3, lw_okq q := List.forall_mem_cons.mpr ⟨lw_p32, List.forall_mem_cons.mpr ⟨lw_p33, List.forall_mem_cons.mpr ⟨lw_p34, List.forall_mem_cons.mpr ⟨lw_p35, List.forall_mem_cons.mpr ⟨lw_p36, List.forall_mem_cons.mpr ⟨lw_p37, List.forall_mem_cons.mpr ⟨lw_p38, List.forall_mem_cons.mpr ⟨lw_p39, List.forall_mem_cons.mpr ⟨lw_p40, List.forall_mem_cons.mpr ⟨lw_p41, List.forall_mem_cons.mpr ⟨lw_p42, List.forall_mem_cons.mpr ⟨lw_p43, List.forall_mem_cons.mpr ⟨lw_p44, List.forall_mem_cons.mpr ⟨lw_p45, List.forall_mem_cons.mpr ⟨lw_p46, List.forall_mem_cons.mpr ⟨lw_p47, fun _ h => absurd h List.not_mem_nil⟩⟩⟩⟩⟩⟩⟩⟩⟩⟩⟩⟩⟩⟩⟩⟩
theorem lw_p48 : lw_okq (⟨"DomeSlitModel", "isLight", "(I)Z"⟩, 33) := ⟨⟨by decide +kernel, by decide +kernel⟩, List.mem_of_getElem? (i := 858) (by decide +kernel), List.mem_of_getElem? (i := 1070) (by decide +kernel), List.mem_of_getElem? (i := 1071) (by decide +kernel)⟩
theorem lw_p49 : lw_okq (⟨"DomeSlitModel", "toldOf", "(II)I"⟩, 33) := ⟨⟨by decide +kernel, by decide +kernel⟩, List.mem_of_getElem? (i := 858) (by decide +kernel), List.mem_of_getElem? (i := 1074) (by decide +kernel), List.mem_of_getElem? (i := 1075) (by decide +kernel)⟩
theorem lw_p50 : lw_okq (⟨"DomeSlitModel", "now", "(I)I"⟩, 33) := ⟨⟨by decide +kernel, by decide +kernel⟩, List.mem_of_getElem? (i := 858) (by decide +kernel), List.mem_of_getElem? (i := 1078) (by decide +kernel), List.mem_of_getElem? (i := 1079) (by decide +kernel)⟩
theorem lw_p51 : lw_okq (⟨"DomeSlitModel", "placeAt", "(II)I"⟩, 33) := ⟨⟨by decide +kernel, by decide +kernel⟩, List.mem_of_getElem? (i := 858) (by decide +kernel), List.mem_of_getElem? (i := 1082) (by decide +kernel), List.mem_of_getElem? (i := 1083) (by decide +kernel)⟩
theorem lw_p52 : lw_okq (⟨"DomeSlitModel", "brightAt", "(II)I"⟩, 33) := ⟨⟨by decide +kernel, by decide +kernel⟩, List.mem_of_getElem? (i := 858) (by decide +kernel), List.mem_of_getElem? (i := 1092) (by decide +kernel), List.mem_of_getElem? (i := 1093) (by decide +kernel)⟩
theorem lw_p53 : lw_okq (⟨"DomeSlitModel", "got", "(III)I"⟩, 33) := ⟨⟨by decide +kernel, by decide +kernel⟩, List.mem_of_getElem? (i := 858) (by decide +kernel), List.mem_of_getElem? (i := 1099) (by decide +kernel), List.mem_of_getElem? (i := 1100) (by decide +kernel)⟩
theorem lw_p54 : lw_okq (⟨"DomeSlitModel", "times", "(II)I"⟩, 33) := ⟨⟨by decide +kernel, by decide +kernel⟩, List.mem_of_getElem? (i := 858) (by decide +kernel), List.mem_of_getElem? (i := 1103) (by decide +kernel), List.mem_of_getElem? (i := 1104) (by decide +kernel)⟩
theorem lw_p55 : lw_okq (⟨"DomeSlitModel", "isOf", "(II)Z"⟩, 33) := ⟨⟨by decide +kernel, by decide +kernel⟩, List.mem_of_getElem? (i := 858) (by decide +kernel), List.mem_of_getElem? (i := 1111) (by decide +kernel), List.mem_of_getElem? (i := 1112) (by decide +kernel)⟩
theorem lw_p56 : lw_okq (⟨"DomeSlitModel", "moves", "(I)I"⟩, 33) := ⟨⟨by decide +kernel, by decide +kernel⟩, List.mem_of_getElem? (i := 858) (by decide +kernel), List.mem_of_getElem? (i := 1115) (by decide +kernel), List.mem_of_getElem? (i := 1116) (by decide +kernel)⟩
theorem lw_p57 : lw_okq (⟨"DomeSlitModel", "back", "(I)I"⟩, 33) := ⟨⟨by decide +kernel, by decide +kernel⟩, List.mem_of_getElem? (i := 858) (by decide +kernel), List.mem_of_getElem? (i := 1119) (by decide +kernel), List.mem_of_getElem? (i := 1120) (by decide +kernel)⟩
theorem lw_p58 : lw_okq (⟨"DomeSlitModel", "fourBrights", "(I)I"⟩, 33) := ⟨⟨by decide +kernel, by decide +kernel⟩, List.mem_of_getElem? (i := 858) (by decide +kernel), List.mem_of_getElem? (i := 1123) (by decide +kernel), List.mem_of_getElem? (i := 1124) (by decide +kernel)⟩
theorem lw_p59 : lw_okq (⟨"DomeSlitModel", "offBest", "(I)I"⟩, 33) := ⟨⟨by decide +kernel, by decide +kernel⟩, List.mem_of_getElem? (i := 858) (by decide +kernel), List.mem_of_getElem? (i := 1127) (by decide +kernel), List.mem_of_getElem? (i := 1128) (by decide +kernel)⟩
theorem lw_p60 : lw_okq (⟨"DomeSlitModel", "doMoment", "()I"⟩, 33) := ⟨⟨by decide +kernel, by decide +kernel⟩, List.mem_of_getElem? (i := 858) (by decide +kernel), List.mem_of_getElem? (i := 1135) (by decide +kernel), List.mem_of_getElem? (i := 1136) (by decide +kernel)⟩
theorem lw_p61 : lw_okq (⟨"DomeSlitModel", "gotNow", "()I"⟩, 33) := ⟨⟨by decide +kernel, by decide +kernel⟩, List.mem_of_getElem? (i := 858) (by decide +kernel), List.mem_of_getElem? (i := 1139) (by decide +kernel), List.mem_of_getElem? (i := 1140) (by decide +kernel)⟩
theorem lw_p62 : lw_okq (⟨"DomeSlitModel", "keepPast", "()V"⟩, 33) := ⟨⟨by decide +kernel, by decide +kernel⟩, List.mem_of_getElem? (i := 858) (by decide +kernel), List.mem_of_getElem? (i := 1143) (by decide +kernel), List.mem_of_getElem? (i := 1144) (by decide +kernel)⟩
theorem lw_p63 : lw_okq (⟨"DomeSlitModel", "doTurn", "(I)I"⟩, 33) := ⟨⟨by decide +kernel, by decide +kernel⟩, List.mem_of_getElem? (i := 858) (by decide +kernel), List.mem_of_getElem? (i := 1153) (by decide +kernel), List.mem_of_getElem? (i := 1154) (by decide +kernel)⟩
def lw_privs_4 : List (MethodName × Nat) := [(⟨"DomeSlitModel", "isLight", "(I)Z"⟩, 33), (⟨"DomeSlitModel", "toldOf", "(II)I"⟩, 33), (⟨"DomeSlitModel", "now", "(I)I"⟩, 33), (⟨"DomeSlitModel", "placeAt", "(II)I"⟩, 33), (⟨"DomeSlitModel", "brightAt", "(II)I"⟩, 33), (⟨"DomeSlitModel", "got", "(III)I"⟩, 33), (⟨"DomeSlitModel", "times", "(II)I"⟩, 33), (⟨"DomeSlitModel", "isOf", "(II)Z"⟩, 33), (⟨"DomeSlitModel", "moves", "(I)I"⟩, 33), (⟨"DomeSlitModel", "back", "(I)I"⟩, 33), (⟨"DomeSlitModel", "fourBrights", "(I)I"⟩, 33), (⟨"DomeSlitModel", "offBest", "(I)I"⟩, 33), (⟨"DomeSlitModel", "doMoment", "()I"⟩, 33), (⟨"DomeSlitModel", "gotNow", "()I"⟩, 33), (⟨"DomeSlitModel", "keepPast", "()V"⟩, 33), (⟨"DomeSlitModel", "doTurn", "(I)I"⟩, 33)]
theorem lw_r4 : ∀ q ∈ lw_privs_4, lw_okq q := List.forall_mem_cons.mpr ⟨lw_p48, List.forall_mem_cons.mpr ⟨lw_p49, List.forall_mem_cons.mpr ⟨lw_p50, List.forall_mem_cons.mpr ⟨lw_p51, List.forall_mem_cons.mpr ⟨lw_p52, List.forall_mem_cons.mpr ⟨lw_p53, List.forall_mem_cons.mpr ⟨lw_p54, List.forall_mem_cons.mpr ⟨lw_p55, List.forall_mem_cons.mpr ⟨lw_p56, List.forall_mem_cons.mpr ⟨lw_p57, List.forall_mem_cons.mpr ⟨lw_p58, List.forall_mem_cons.mpr ⟨lw_p59, List.forall_mem_cons.mpr ⟨lw_p60, List.forall_mem_cons.mpr ⟨lw_p61, List.forall_mem_cons.mpr ⟨lw_p62, List.forall_mem_cons.mpr ⟨lw_p63, fun _ h => absurd h List.not_mem_nil⟩⟩⟩⟩⟩⟩⟩⟩⟩⟩⟩⟩⟩⟩⟩⟩
theorem lw_p64 : lw_okq (⟨"DomeSlitModel", "effortFrom", "(II)I"⟩, 33) := ⟨⟨by decide +kernel, by decide +kernel⟩, List.mem_of_getElem? (i := 858) (by decide +kernel), List.mem_of_getElem? (i := 1157) (by decide +kernel), List.mem_of_getElem? (i := 1158) (by decide +kernel)⟩
theorem lw_p65 : lw_okq (⟨"DomeSlitModel", "copyDome", "(II)V"⟩, 33) := ⟨⟨by decide +kernel, by decide +kernel⟩, List.mem_of_getElem? (i := 858) (by decide +kernel), List.mem_of_getElem? (i := 1170) (by decide +kernel), List.mem_of_getElem? (i := 1171) (by decide +kernel)⟩
theorem lw_p66 : lw_okq (⟨"DomeSlitModel", "over", "(II)I"⟩, 33) := ⟨⟨by decide +kernel, by decide +kernel⟩, List.mem_of_getElem? (i := 858) (by decide +kernel), List.mem_of_getElem? (i := 1202) (by decide +kernel), List.mem_of_getElem? (i := 1203) (by decide +kernel)⟩
theorem lw_p67 : lw_okq (⟨"DomeSlitModel", "layLeast", "(IIZ)V"⟩, 33) := ⟨⟨by decide +kernel, by decide +kernel⟩, List.mem_of_getElem? (i := 858) (by decide +kernel), List.mem_of_getElem? (i := 1215) (by decide +kernel), List.mem_of_getElem? (i := 1216) (by decide +kernel)⟩
theorem lw_p68 : lw_okq (⟨"DomeSlitModel", "layEfforts", "()V"⟩, 33) := ⟨⟨by decide +kernel, by decide +kernel⟩, List.mem_of_getElem? (i := 858) (by decide +kernel), List.mem_of_getElem? (i := 1219) (by decide +kernel), List.mem_of_getElem? (i := 1220) (by decide +kernel)⟩
theorem lw_p69 : lw_okq (⟨"DomeSlitModel", "onBy", "(IIIIZ)I"⟩, 33) := ⟨⟨by decide +kernel, by decide +kernel⟩, List.mem_of_getElem? (i := 858) (by decide +kernel), List.mem_of_getElem? (i := 1224) (by decide +kernel), List.mem_of_getElem? (i := 1225) (by decide +kernel)⟩
theorem lw_p70 : lw_okq (⟨"DomeSlitModel", "costOf", "(IIZ)I"⟩, 33) := ⟨⟨by decide +kernel, by decide +kernel⟩, List.mem_of_getElem? (i := 858) (by decide +kernel), List.mem_of_getElem? (i := 1228) (by decide +kernel), List.mem_of_getElem? (i := 1229) (by decide +kernel)⟩
theorem lw_p71 : lw_okq (⟨"DomeSlitModel", "noTurns", "(I)I"⟩, 33) := ⟨⟨by decide +kernel, by decide +kernel⟩, List.mem_of_getElem? (i := 858) (by decide +kernel), List.mem_of_getElem? (i := 1245) (by decide +kernel), List.mem_of_getElem? (i := 1246) (by decide +kernel)⟩
theorem lw_p72 : lw_okq (⟨"DomeSlitModel", "areAll", "(III)Z"⟩, 33) := ⟨⟨by decide +kernel, by decide +kernel⟩, List.mem_of_getElem? (i := 858) (by decide +kernel), List.mem_of_getElem? (i := 1249) (by decide +kernel), List.mem_of_getElem? (i := 1250) (by decide +kernel)⟩
theorem lw_p73 : lw_okq (⟨"DomeSlitModel", "orderEffort", "()I"⟩, 33) := ⟨⟨by decide +kernel, by decide +kernel⟩, List.mem_of_getElem? (i := 858) (by decide +kernel), List.mem_of_getElem? (i := 1257) (by decide +kernel), List.mem_of_getElem? (i := 1258) (by decide +kernel)⟩
theorem lw_p74 : lw_okq (⟨"DomeSlitModel", "nextOrder", "(I)Z"⟩, 33) := ⟨⟨by decide +kernel, by decide +kernel⟩, List.mem_of_getElem? (i := 858) (by decide +kernel), List.mem_of_getElem? (i := 1261) (by decide +kernel), List.mem_of_getElem? (i := 1262) (by decide +kernel)⟩
theorem lw_p75 : lw_okq (⟨"DomeSlitModel", "noNotes", "(I)I"⟩, 33) := ⟨⟨by decide +kernel, by decide +kernel⟩, List.mem_of_getElem? (i := 858) (by decide +kernel), List.mem_of_getElem? (i := 1269) (by decide +kernel), List.mem_of_getElem? (i := 1270) (by decide +kernel)⟩
theorem lw_p76 : lw_okq (⟨"DomeSlitModel", "isSo", "(IIIII)Z"⟩, 33) := ⟨⟨by decide +kernel, by decide +kernel⟩, List.mem_of_getElem? (i := 858) (by decide +kernel), List.mem_of_getElem? (i := 1274) (by decide +kernel), List.mem_of_getElem? (i := 1275) (by decide +kernel)⟩
theorem lw_p77 : lw_okq (⟨"DomeSlitModel", "worseOf", "(IIII)I"⟩, 33) := ⟨⟨by decide +kernel, by decide +kernel⟩, List.mem_of_getElem? (i := 858) (by decide +kernel), List.mem_of_getElem? (i := 1295) (by decide +kernel), List.mem_of_getElem? (i := 1296) (by decide +kernel)⟩
theorem lw_p78 : lw_okq (⟨"DomeSlitModel", "tellAsleep", "(IIIZ)I"⟩, 33) := ⟨⟨by decide +kernel, by decide +kernel⟩, List.mem_of_getElem? (i := 858) (by decide +kernel), List.mem_of_getElem? (i := 1304) (by decide +kernel), List.mem_of_getElem? (i := 1305) (by decide +kernel)⟩
theorem lw_p79 : lw_okq (⟨"DomeSlitModel", "waysOf", "(III)J"⟩, 33) := ⟨⟨by decide +kernel, by decide +kernel⟩, List.mem_of_getElem? (i := 858) (by decide +kernel), List.mem_of_getElem? (i := 1308) (by decide +kernel), List.mem_of_getElem? (i := 1309) (by decide +kernel)⟩
def lw_privs_5 : List (MethodName × Nat) := [(⟨"DomeSlitModel", "effortFrom", "(II)I"⟩, 33), (⟨"DomeSlitModel", "copyDome", "(II)V"⟩, 33), (⟨"DomeSlitModel", "over", "(II)I"⟩, 33), (⟨"DomeSlitModel", "layLeast", "(IIZ)V"⟩, 33), (⟨"DomeSlitModel", "layEfforts", "()V"⟩, 33), (⟨"DomeSlitModel", "onBy", "(IIIIZ)I"⟩, 33), (⟨"DomeSlitModel", "costOf", "(IIZ)I"⟩, 33), (⟨"DomeSlitModel", "noTurns", "(I)I"⟩, 33), (⟨"DomeSlitModel", "areAll", "(III)Z"⟩, 33), (⟨"DomeSlitModel", "orderEffort", "()I"⟩, 33), (⟨"DomeSlitModel", "nextOrder", "(I)Z"⟩, 33), (⟨"DomeSlitModel", "noNotes", "(I)I"⟩, 33), (⟨"DomeSlitModel", "isSo", "(IIIII)Z"⟩, 33), (⟨"DomeSlitModel", "worseOf", "(IIII)I"⟩, 33), (⟨"DomeSlitModel", "tellAsleep", "(IIIZ)I"⟩, 33), (⟨"DomeSlitModel", "waysOf", "(III)J"⟩, 33)]
theorem lw_r5 : ∀ q ∈ lw_privs_5, lw_okq q := List.forall_mem_cons.mpr ⟨lw_p64, List.forall_mem_cons.mpr ⟨lw_p65, List.forall_mem_cons.mpr ⟨lw_p66, List.forall_mem_cons.mpr ⟨lw_p67, List.forall_mem_cons.mpr ⟨lw_p68, List.forall_mem_cons.mpr ⟨lw_p69, List.forall_mem_cons.mpr ⟨lw_p70, List.forall_mem_cons.mpr ⟨lw_p71, List.forall_mem_cons.mpr ⟨lw_p72, List.forall_mem_cons.mpr ⟨lw_p73, List.forall_mem_cons.mpr ⟨lw_p74, List.forall_mem_cons.mpr ⟨lw_p75, List.forall_mem_cons.mpr ⟨lw_p76, List.forall_mem_cons.mpr ⟨lw_p77, List.forall_mem_cons.mpr ⟨lw_p78, List.forall_mem_cons.mpr ⟨lw_p79, fun _ h => absurd h List.not_mem_nil⟩⟩⟩⟩⟩⟩⟩⟩⟩⟩⟩⟩⟩⟩⟩⟩
theorem lw_p80 : lw_okq (⟨"DomeSlitModel", "layAsleep", "(III)V"⟩, 33) := ⟨⟨by decide +kernel, by decide +kernel⟩, List.mem_of_getElem? (i := 858) (by decide +kernel), List.mem_of_getElem? (i := 1315) (by decide +kernel), List.mem_of_getElem? (i := 1316) (by decide +kernel)⟩
theorem lw_p81 : lw_okq (⟨"DomeSlitModel", "tellParts", "(JJ)I"⟩, 33) := ⟨⟨by decide +kernel, by decide +kernel⟩, List.mem_of_getElem? (i := 858) (by decide +kernel), List.mem_of_getElem? (i := 1319) (by decide +kernel), List.mem_of_getElem? (i := 1320) (by decide +kernel)⟩
theorem lw_p82 : lw_okq (⟨"DomeSlitModel", "countOf", "(I)I"⟩, 33) := ⟨⟨by decide +kernel, by decide +kernel⟩, List.mem_of_getElem? (i := 858) (by decide +kernel), List.mem_of_getElem? (i := 1353) (by decide +kernel), List.mem_of_getElem? (i := 1354) (by decide +kernel)⟩
theorem lw_p83 : lw_okq (⟨"DomeSlitModel", "kindMany", "(I)I"⟩, 33) := ⟨⟨by decide +kernel, by decide +kernel⟩, List.mem_of_getElem? (i := 858) (by decide +kernel), List.mem_of_getElem? (i := 1357) (by decide +kernel), List.mem_of_getElem? (i := 1358) (by decide +kernel)⟩
theorem lw_p84 : lw_okq (⟨"DomeSlitModel", "thereOf", "(I)I"⟩, 33) := ⟨⟨by decide +kernel, by decide +kernel⟩, List.mem_of_getElem? (i := 858) (by decide +kernel), List.mem_of_getElem? (i := 1361) (by decide +kernel), List.mem_of_getElem? (i := 1362) (by decide +kernel)⟩
def lw_privs_6 : List (MethodName × Nat) := [(⟨"DomeSlitModel", "layAsleep", "(III)V"⟩, 33), (⟨"DomeSlitModel", "tellParts", "(JJ)I"⟩, 33), (⟨"DomeSlitModel", "countOf", "(I)I"⟩, 33), (⟨"DomeSlitModel", "kindMany", "(I)I"⟩, 33), (⟨"DomeSlitModel", "thereOf", "(I)I"⟩, 33)]
theorem lw_r6 : ∀ q ∈ lw_privs_6, lw_okq q := List.forall_mem_cons.mpr ⟨lw_p80, List.forall_mem_cons.mpr ⟨lw_p81, List.forall_mem_cons.mpr ⟨lw_p82, List.forall_mem_cons.mpr ⟨lw_p83, List.forall_mem_cons.mpr ⟨lw_p84, fun _ h => absurd h List.not_mem_nil⟩⟩⟩⟩⟩
def lw_privs : List (MethodName × Nat) := lw_privs_1 ++ (lw_privs_2 ++ (lw_privs_3 ++ (lw_privs_4 ++ (lw_privs_5 ++ (lw_privs_6)))))
def lw_tbl : List Cond := k2_sels lw_privs ++ tables_1
theorem lw_privs_ok : ∀ q ∈ lw_privs, lw_okq q := by
  show ∀ q ∈ lw_privs_1 ++ (lw_privs_2 ++ (lw_privs_3 ++ (lw_privs_4 ++ (lw_privs_5 ++ (lw_privs_6))))), lw_okq q
  exact List.forall_mem_append.mpr ⟨lw_r1, List.forall_mem_append.mpr ⟨lw_r2, List.forall_mem_append.mpr ⟨lw_r3, List.forall_mem_append.mpr ⟨lw_r4, List.forall_mem_append.mpr ⟨lw_r5, lw_r6⟩⟩⟩⟩⟩
end
section
def RX0 : String := "DomeSlit$Follower"
def TX0 : u_T := fun k => match k with
  | 0 => ("DomeSlit$Follower", "slit", "LDomeSlit$Slit;", true)
  | 1 => ("DomeSlit$Follower", "view", "LDomeSlit$View;", true)
  | 2 => ("DomeSlit$Follower", "table", "[I", false)
  | _ => ("DomeSlit$Follower", "later", "[I", false)
def tyX0 : Nat → FieldType := fun k => match k with
  | 0 => .object "DomeSlit$Slit"
  | 1 => .object "DomeSlit$View"
  | 2 => .array .int
  | _ => .array .int
theorem nmX0 : ∀ a, a < 4 → ∀ b, b < 4 → a ≠ b → (TX0 a).2.1 ≠ (TX0 b).2.1 := by decide +kernel
theorem tyX0_ok : ∀ k, k < 4 → parseFieldDescriptor (TX0 k).2.2.1 = some (tyX0 k) := by decide +kernel
abbrev cX0_init : ByteArray := prog_2_method_1_code
def yX0_init : MethodName := ⟨RX0, "<init>", "(LDomeSlit$Slit;LDomeSlit$View;)V"⟩
abbrev cX0_least : ByteArray := prog_2_method_2_code
def yX0_least : MethodName := ⟨RX0, "least", "(IIZ)I"⟩
abbrev cX0_writeTurns : ByteArray := prog_2_method_3_code
def yX0_writeTurns : MethodName := ⟨RX0, "writeTurns", "(IILDomeSlit$Line;)V"⟩
abbrev cX0_leastBehind : ByteArray := prog_2_method_4_code
def yX0_leastBehind : MethodName := ⟨RX0, "leastBehind", "(IIIZ)I"⟩
abbrev cX0_mostWithin : ByteArray := prog_2_method_5_code
def yX0_mostWithin : MethodName := ⟨RX0, "mostWithin", "(III)I"⟩
abbrev cX0_raiseMost : ByteArray := prog_2_method_6_code
def yX0_raiseMost : MethodName := ⟨RX0, "raiseMost", "(IIII)V"⟩
abbrev cX0_mostByCloud : ByteArray := prog_2_method_7_code
def yX0_mostByCloud : MethodName := ⟨RX0, "mostByCloud", "(II)I"⟩
abbrev cX0_mostBehindClouds : ByteArray := prog_2_method_8_code
def yX0_mostBehindClouds : MethodName := ⟨RX0, "mostBehindClouds", "(III)I"⟩
abbrev cX0_leastOrder : ByteArray := prog_2_method_9_code
def yX0_leastOrder : MethodName := ⟨RX0, "leastOrder", "([LDomeSlit$Light;ILDomeSlit$Night;LDomeSlit$Line;)I"⟩
abbrev cX0_lowerOrders : ByteArray := prog_2_method_10_code
def yX0_lowerOrders : MethodName := ⟨RX0, "lowerOrders", "(IIII)V"⟩
abbrev cX0_swapTables : ByteArray := prog_2_method_11_code
def yX0_swapTables : MethodName := ⟨RX0, "swapTables", "()V"⟩
def RX1 : String := "DomeSlit$Light"
def TX1 : u_T := fun k => match k with
  | 0 => ("DomeSlit$Light", "kind", "I", false)
  | 1 => ("DomeSlit$Light", "start", "I", false)
  | 2 => ("DomeSlit$Light", "speed", "I", false)
  | _ => ("DomeSlit$Light", "bright", "I", false)
def tyX1 : Nat → FieldType := fun k => match k with
  | 0 => .int
  | 1 => .int
  | 2 => .int
  | _ => .int
theorem nmX1 : ∀ a, a < 4 → ∀ b, b < 4 → a ≠ b → (TX1 a).2.1 ≠ (TX1 b).2.1 := by decide +kernel
theorem tyX1_ok : ∀ k, k < 4 → parseFieldDescriptor (TX1 k).2.2.1 = some (tyX1 k) := by decide +kernel
abbrev cX1_init : ByteArray := prog_3_method_1_code
def yX1_init : MethodName := ⟨RX1, "<init>", "()V"⟩
abbrev cX1_become : ByteArray := prog_3_method_2_code
def yX1_become : MethodName := ⟨RX1, "become", "(IIII)V"⟩
abbrev cX1_standAt : ByteArray := prog_3_method_3_code
def yX1_standAt : MethodName := ⟨RX1, "standAt", "(II)V"⟩
abbrev cX1_kind : ByteArray := prog_3_method_4_code
def yX1_kind : MethodName := ⟨RX1, "kind", "()I"⟩
abbrev cX1_speed : ByteArray := prog_3_method_5_code
def yX1_speed : MethodName := ⟨RX1, "speed", "()I"⟩
abbrev cX1_toldBright : ByteArray := prog_3_method_6_code
def yX1_toldBright : MethodName := ⟨RX1, "toldBright", "()I"⟩
abbrev cX1_isOf : ByteArray := prog_3_method_7_code
def yX1_isOf : MethodName := ⟨RX1, "isOf", "(I)Z"⟩
abbrev cX1_movedBy : ByteArray := prog_3_method_8_code
def yX1_movedBy : MethodName := ⟨RX1, "movedBy", "(I)I"⟩
abbrev cX1_placeAt : ByteArray := prog_3_method_9_code
def yX1_placeAt : MethodName := ⟨RX1, "placeAt", "(I)I"⟩
abbrev cX1_brightAt : ByteArray := prog_3_method_10_code
def yX1_brightAt : MethodName := ⟨RX1, "brightAt", "(I)I"⟩
abbrev cX1_brightTogether : ByteArray := prog_3_method_11_code
def yX1_brightTogether : MethodName := ⟨RX1, "brightTogether", "(II)I"⟩
abbrev cX1_movesWithin : ByteArray := prog_3_method_12_code
def yX1_movesWithin : MethodName := ⟨RX1, "movesWithin", "(II)I"⟩
abbrev cX1_returnsAfter : ByteArray := prog_3_method_13_code
def yX1_returnsAfter : MethodName := ⟨RX1, "returnsAfter", "(I)I"⟩
def RX2 : String := "DomeSlit$Line"
def TX2 : u_T := fun k => match k with
  | 0 => ("DomeSlit$Line", "cells", "[I", true)
  | _ => ("DomeSlit$Line", "size", "I", false)
def tyX2 : Nat → FieldType := fun k => match k with
  | 0 => .array .int
  | _ => .int
theorem nmX2 : ∀ a, a < 2 → ∀ b, b < 2 → a ≠ b → (TX2 a).2.1 ≠ (TX2 b).2.1 := by decide +kernel
theorem tyX2_ok : ∀ k, k < 2 → parseFieldDescriptor (TX2 k).2.2.1 = some (tyX2 k) := by decide +kernel
abbrev cX2_init : ByteArray := prog_4_method_1_code
def yX2_init : MethodName := ⟨RX2, "<init>", "(I)V"⟩
abbrev cX2_room : ByteArray := prog_4_method_2_code
def yX2_room : MethodName := ⟨RX2, "room", "()I"⟩
abbrev cX2_size : ByteArray := prog_4_method_3_code
def yX2_size : MethodName := ⟨RX2, "size", "()I"⟩
abbrev cX2_isMissing : ByteArray := prog_4_method_4_code
def yX2_isMissing : MethodName := ⟨RX2, "isMissing", "()Z"⟩
abbrev cX2_remove : ByteArray := prog_4_method_5_code
def yX2_remove : MethodName := ⟨RX2, "remove", "()V"⟩
abbrev cX2_renew : ByteArray := prog_4_method_6_code
def yX2_renew : MethodName := ⟨RX2, "renew", "(II)V"⟩
abbrev cX2_holds : ByteArray := prog_4_method_7_code
def yX2_holds : MethodName := ⟨RX2, "holds", "(I)Z"⟩
abbrev cX2_holdsRun : ByteArray := prog_4_method_8_code
def yX2_holdsRun : MethodName := ⟨RX2, "holdsRun", "(II)Z"⟩
abbrev cX2_read : ByteArray := prog_4_method_9_code
def yX2_read : MethodName := ⟨RX2, "read", "(I)I"⟩
abbrev cX2_write : ByteArray := prog_4_method_10_code
def yX2_write : MethodName := ⟨RX2, "write", "(II)V"⟩
abbrev cX2_take : ByteArray := prog_4_method_11_code
def yX2_take : MethodName := ⟨RX2, "take", "(ILDomeSlit$Line;II)V"⟩
abbrev cX2_sum : ByteArray := prog_4_method_12_code
def yX2_sum : MethodName := ⟨RX2, "sum", "()J"⟩
abbrev cX2_isAllWithin : ByteArray := prog_4_method_13_code
def yX2_isAllWithin : MethodName := ⟨RX2, "isAllWithin", "(II)Z"⟩
abbrev cX2_firstLess : ByteArray := prog_4_method_14_code
def yX2_firstLess : MethodName := ⟨RX2, "firstLess", "()I"⟩
abbrev cX2_mixedInto : ByteArray := prog_4_method_15_code
def yX2_mixedInto : MethodName := ⟨RX2, "mixedInto", "(J)J"⟩
def RX3 : String := "DomeSlit$Night"
def TX3 : u_T := fun k => match k with
  | 0 => ("DomeSlit$Night", "deeds", "[I", true)
  | 1 => ("DomeSlit$Night", "done", "I", false)
  | 2 => ("DomeSlit$Night", "moment", "I", false)
  | 3 => ("DomeSlit$Night", "first", "I", false)
  | _ => ("DomeSlit$Night", "spent", "I", false)
def tyX3 : Nat → FieldType := fun k => match k with
  | 0 => .array .int
  | 1 => .int
  | 2 => .int
  | 3 => .int
  | _ => .int
theorem nmX3 : ∀ a, a < 5 → ∀ b, b < 5 → a ≠ b → (TX3 a).2.1 ≠ (TX3 b).2.1 := by decide +kernel
theorem tyX3_ok : ∀ k, k < 5 → parseFieldDescriptor (TX3 k).2.2.1 = some (tyX3 k) := by decide +kernel
abbrev cX3_init : ByteArray := prog_5_method_1_code
def yX3_init : MethodName := ⟨RX3, "<init>", "()V"⟩
abbrev cX3_begin : ByteArray := prog_5_method_2_code
def yX3_begin : MethodName := ⟨RX3, "begin", "()V"⟩
abbrev cX3_forget : ByteArray := prog_5_method_3_code
def yX3_forget : MethodName := ⟨RX3, "forget", "()V"⟩
abbrev cX3_isForgotten : ByteArray := prog_5_method_4_code
def yX3_isForgotten : MethodName := ⟨RX3, "isForgotten", "()Z"⟩
abbrev cX3_done : ByteArray := prog_5_method_5_code
def yX3_done : MethodName := ⟨RX3, "done", "()I"⟩
abbrev cX3_now : ByteArray := prog_5_method_6_code
def yX3_now : MethodName := ⟨RX3, "now", "()I"⟩
abbrev cX3_first : ByteArray := prog_5_method_7_code
def yX3_first : MethodName := ⟨RX3, "first", "()I"⟩
abbrev cX3_spent : ByteArray := prog_5_method_8_code
def yX3_spent : MethodName := ⟨RX3, "spent", "()I"⟩
abbrev cX3_hasRoom : ByteArray := prog_5_method_9_code
def yX3_hasRoom : MethodName := ⟨RX3, "hasRoom", "(I)Z"⟩
abbrev cX3_pass : ByteArray := prog_5_method_10_code
def yX3_pass : MethodName := ⟨RX3, "pass", "()V"⟩
abbrev cX3_turnBy : ByteArray := prog_5_method_11_code
def yX3_turnBy : MethodName := ⟨RX3, "turnBy", "(ILDomeSlit$Slit;)I"⟩
abbrev cX3_rewind : ByteArray := prog_5_method_12_code
def yX3_rewind : MethodName := ⟨RX3, "rewind", "(ILDomeSlit$Slit;)V"⟩
abbrev cX3_become : ByteArray := prog_5_method_13_code
def yX3_become : MethodName := ⟨RX3, "become", "(LDomeSlit$Night;)V"⟩
abbrev cX3_note : ByteArray := prog_5_method_14_code
def yX3_note : MethodName := ⟨RX3, "note", "(I)V"⟩
def RX4 : String := "DomeSlit$Reader"
def TX4 : u_T := fun k => match k with
  | 0 => ("DomeSlit$Reader", "parts", "[I", true)
  | 1 => ("DomeSlit$Reader", "broad", "I", false)
  | 2 => ("DomeSlit$Reader", "sticks", "I", false)
  | 3 => ("DomeSlit$Reader", "lightsRead", "I", false)
  | 4 => ("DomeSlit$Reader", "here", "I", false)
  | _ => ("DomeSlit$Reader", "broken", "Z", false)
def tyX4 : Nat → FieldType := fun k => match k with
  | 0 => .array .int
  | 1 => .int
  | 2 => .int
  | 3 => .int
  | 4 => .int
  | _ => .boolean
theorem nmX4 : ∀ a, a < 6 → ∀ b, b < 6 → a ≠ b → (TX4 a).2.1 ≠ (TX4 b).2.1 := by decide +kernel
theorem tyX4_ok : ∀ k, k < 6 → parseFieldDescriptor (TX4 k).2.2.1 = some (tyX4 k) := by decide +kernel
abbrev cX4_init : ByteArray := prog_6_method_1_code
def yX4_init : MethodName := ⟨RX4, "<init>", "()V"⟩
abbrev cX4_faultOf : ByteArray := prog_6_method_2_code
def yX4_faultOf : MethodName := ⟨RX4, "faultOf", "(LDomeSlit$Line;)I"⟩
abbrev cX4_build : ByteArray := prog_6_method_3_code
def yX4_build : MethodName := ⟨RX4, "build", "(LDomeSlit$Slit;[LDomeSlit$Light;)I"⟩
abbrev cX4_readLight : ByteArray := prog_6_method_4_code
def yX4_readLight : MethodName := ⟨RX4, "readLight", "(LDomeSlit$Line;I)V"⟩
abbrev cX4_skipBlanks : ByteArray := prog_6_method_5_code
def yX4_skipBlanks : MethodName := ⟨RX4, "skipBlanks", "(LDomeSlit$Line;)V"⟩
abbrev cX4_readDomeLetter : ByteArray := prog_6_method_6_code
def yX4_readDomeLetter : MethodName := ⟨RX4, "readDomeLetter", "(LDomeSlit$Line;)V"⟩
abbrev cX4_kindLetter : ByteArray := prog_6_method_7_code
def yX4_kindLetter : MethodName := ⟨RX4, "kindLetter", "(LDomeSlit$Line;)I"⟩
abbrev cX4_placeFigures : ByteArray := prog_6_method_8_code
def yX4_placeFigures : MethodName := ⟨RX4, "placeFigures", "(LDomeSlit$Line;)I"⟩
abbrev cX4_figure : ByteArray := prog_6_method_9_code
def yX4_figure : MethodName := ⟨RX4, "figure", "(LDomeSlit$Line;II)I"⟩
abbrev cX4_goOnIf : ByteArray := prog_6_method_10_code
def yX4_goOnIf : MethodName := ⟨RX4, "goOnIf", "(Z)V"⟩
def RX5 : String := "DomeSlit$Sleeper"
def TX5 : u_T := fun k => match k with
  | 0 => ("DomeSlit$Sleeper", "view", "LDomeSlit$View;", true)
  | 1 => ("DomeSlit$Sleeper", "weights", "[J", false)
  | 2 => ("DomeSlit$Sleeper", "spare", "[J", false)
  | _ => ("DomeSlit$Sleeper", "whole", "J", false)
def tyX5 : Nat → FieldType := fun k => match k with
  | 0 => .object "DomeSlit$View"
  | 1 => .array .long
  | 2 => .array .long
  | _ => .long
theorem nmX5 : ∀ a, a < 4 → ∀ b, b < 4 → a ≠ b → (TX5 a).2.1 ≠ (TX5 b).2.1 := by decide +kernel
theorem tyX5_ok : ∀ k, k < 4 → parseFieldDescriptor (TX5 k).2.2.1 = some (tyX5 k) := by decide +kernel
abbrev cX5_init : ByteArray := prog_7_method_1_code
def yX5_init : MethodName := ⟨RX5, "<init>", "(LDomeSlit$View;)V"⟩
abbrev cX5_whole : ByteArray := prog_7_method_2_code
def yX5_whole : MethodName := ⟨RX5, "whole", "()J"⟩
abbrev cX5_weigh : ByteArray := prog_7_method_3_code
def yX5_weigh : MethodName := ⟨RX5, "weigh", "(ILDomeSlit$Line;IZ)J"⟩
abbrev cX5_spread : ByteArray := prog_7_method_4_code
def yX5_spread : MethodName := ⟨RX5, "spread", "(II)V"⟩
abbrev cX5_gotAt : ByteArray := prog_7_method_5_code
def yX5_gotAt : MethodName := ⟨RX5, "gotAt", "(IZ)J"⟩
abbrev cX5_weightLeft : ByteArray := prog_7_method_6_code
def yX5_weightLeft : MethodName := ⟨RX5, "weightLeft", "()J"⟩
def RX6 : String := "DomeSlit$Slit"
def TX6 : u_T := fun k => match k with
  | 0 => ("DomeSlit$Slit", "broad", "I", false)
  | _ => ("DomeSlit$Slit", "sticks", "I", false)
def tyX6 : Nat → FieldType := fun k => match k with
  | 0 => .int
  | _ => .int
theorem nmX6 : ∀ a, a < 2 → ∀ b, b < 2 → a ≠ b → (TX6 a).2.1 ≠ (TX6 b).2.1 := by decide +kernel
theorem tyX6_ok : ∀ k, k < 2 → parseFieldDescriptor (TX6 k).2.2.1 = some (tyX6 k) := by decide +kernel
abbrev cX6_init : ByteArray := prog_8_method_1_code
def yX6_init : MethodName := ⟨RX6, "<init>", "()V"⟩
abbrev cX6_become : ByteArray := prog_8_method_2_code
def yX6_become : MethodName := ⟨RX6, "become", "(II)V"⟩
abbrev cX6_broad : ByteArray := prog_8_method_3_code
def yX6_broad : MethodName := ⟨RX6, "broad", "()I"⟩
abbrev cX6_times : ByteArray := prog_8_method_4_code
def yX6_times : MethodName := ⟨RX6, "times", "(II)I"⟩
abbrev cX6_gain : ByteArray := prog_8_method_5_code
def yX6_gain : MethodName := ⟨RX6, "gain", "(ILDomeSlit$Light;I)I"⟩
abbrev cX6_effortOf : ByteArray := prog_8_method_6_code
def yX6_effortOf : MethodName := ⟨RX6, "effortOf", "(II)I"⟩
abbrev cX6_leastWayToBest : ByteArray := prog_8_method_7_code
def yX6_leastWayToBest : MethodName := ⟨RX6, "leastWayToBest", "(II)I"⟩
def RX7 : String := "DomeSlit$View"
def TX7 : u_T := fun k => match k with
  | _ => ("DomeSlit$View", "gains", "[I", true)
def tyX7 : Nat → FieldType := fun k => match k with
  | _ => .array .int
theorem nmX7 : ∀ a, a < 1 → ∀ b, b < 1 → a ≠ b → (TX7 a).2.1 ≠ (TX7 b).2.1 := by decide +kernel
theorem tyX7_ok : ∀ k, k < 1 → parseFieldDescriptor (TX7 k).2.2.1 = some (tyX7 k) := by decide +kernel
abbrev cX7_init : ByteArray := prog_9_method_1_code
def yX7_init : MethodName := ⟨RX7, "<init>", "()V"⟩
abbrev cX7_fill : ByteArray := prog_9_method_2_code
def yX7_fill : MethodName := ⟨RX7, "fill", "(LDomeSlit$Light;LDomeSlit$Slit;II)V"⟩
abbrev cX7_gain : ByteArray := prog_9_method_3_code
def yX7_gain : MethodName := ⟨RX7, "gain", "(II)I"⟩
def RX8 : String := "DomeSlit"
def TX8 : u_T := fun k => match k with
  | 0 => ("DomeSlit", "rows", "[LDomeSlit$Line;", true)
  | 1 => ("DomeSlit", "texts", "[LDomeSlit$Line;", true)
  | 2 => ("DomeSlit", "reader", "LDomeSlit$Reader;", true)
  | 3 => ("DomeSlit", "lights", "[LDomeSlit$Light;", true)
  | 4 => ("DomeSlit", "guess", "LDomeSlit$Light;", true)
  | 5 => ("DomeSlit", "slit", "LDomeSlit$Slit;", true)
  | 6 => ("DomeSlit", "night", "LDomeSlit$Night;", true)
  | 7 => ("DomeSlit", "kept", "[LDomeSlit$Night;", true)
  | 8 => ("DomeSlit", "view", "LDomeSlit$View;", true)
  | 9 => ("DomeSlit", "follower", "LDomeSlit$Follower;", true)
  | 10 => ("DomeSlit", "sleeper", "LDomeSlit$Sleeper;", true)
  | 11 => ("DomeSlit", "foundCounts", "[I", true)
  | 12 => ("DomeSlit", "lightCount", "I", false)
  | 13 => ("DomeSlit", "latestFound", "I", false)
  | 14 => ("DomeSlit", "told", "I", false)
  | 15 => ("DomeSlit", "upperPart", "J", false)
  | _ => ("DomeSlit", "lowerPart", "J", false)
def tyX8 : Nat → FieldType := fun k => match k with
  | 0 => .array (.object "DomeSlit$Line")
  | 1 => .array (.object "DomeSlit$Line")
  | 2 => .object "DomeSlit$Reader"
  | 3 => .array (.object "DomeSlit$Light")
  | 4 => .object "DomeSlit$Light"
  | 5 => .object "DomeSlit$Slit"
  | 6 => .object "DomeSlit$Night"
  | 7 => .array (.object "DomeSlit$Night")
  | 8 => .object "DomeSlit$View"
  | 9 => .object "DomeSlit$Follower"
  | 10 => .object "DomeSlit$Sleeper"
  | 11 => .array .int
  | 12 => .int
  | 13 => .int
  | 14 => .int
  | 15 => .long
  | _ => .long
theorem nmX8 : ∀ a, a < 17 → ∀ b, b < 17 → a ≠ b → (TX8 a).2.1 ≠ (TX8 b).2.1 := by decide +kernel
theorem tyX8_ok : ∀ k, k < 17 → parseFieldDescriptor (TX8 k).2.2.1 = some (tyX8 k) := by decide +kernel
abbrev cX8_init : ByteArray := prog_1_method_1_code
def yX8_init : MethodName := ⟨RX8, "<init>", "()V"⟩
abbrev cX8_row : ByteArray := prog_1_method_2_code
def yX8_row : MethodName := ⟨RX8, "row", "(II)I"⟩
abbrev cX8_lay : ByteArray := prog_1_method_3_code
def yX8_lay : MethodName := ⟨RX8, "lay", "(III)I"⟩
abbrev cX8_at : ByteArray := prog_1_method_4_code
def yX8_at : MethodName := ⟨RX8, "at", "(II)I"⟩
abbrev cX8_tear : ByteArray := prog_1_method_5_code
def yX8_tear : MethodName := ⟨RX8, "tear", "(I)I"⟩
abbrev cX8_copy : ByteArray := prog_1_method_6_code
def yX8_copy : MethodName := ⟨RX8, "copy", "(IIIII)I"⟩
abbrev cX8_mean : ByteArray := prog_1_method_7_code
def yX8_mean : MethodName := ⟨RX8, "mean", "(I)I"⟩
abbrev cX8_text : ByteArray := prog_1_method_8_code
def yX8_text : MethodName := ⟨RX8, "text", "(II)I"⟩
abbrev cX8_put : ByteArray := prog_1_method_9_code
def yX8_put : MethodName := ⟨RX8, "put", "(III)I"⟩
abbrev cX8_fault : ByteArray := prog_1_method_10_code
def yX8_fault : MethodName := ⟨RX8, "fault", "(I)I"⟩
abbrev cX8_dome : ByteArray := prog_1_method_11_code
def yX8_dome : MethodName := ⟨RX8, "dome", "(I)I"⟩
abbrev cX8_light : ByteArray := prog_1_method_12_code
def yX8_light : MethodName := ⟨RX8, "light", "(II)I"⟩
abbrev cX8_mark : ByteArray := prog_1_method_13_code
def yX8_mark : MethodName := ⟨RX8, "mark", "(II)I"⟩
abbrev cX8_moment : ByteArray := prog_1_method_14_code
def yX8_moment : MethodName := ⟨RX8, "moment", "()I"⟩
abbrev cX8_turn : ByteArray := prog_1_method_15_code
def yX8_turn : MethodName := ⟨RX8, "turn", "(I)I"⟩
abbrev cX8_undo : ByteArray := prog_1_method_16_code
def yX8_undo : MethodName := ⟨RX8, "undo", "(I)I"⟩
abbrev cX8_keep : ByteArray := prog_1_method_17_code
def yX8_keep : MethodName := ⟨RX8, "keep", "(I)I"⟩
abbrev cX8_on : ByteArray := prog_1_method_18_code
def yX8_on : MethodName := ⟨RX8, "on", "(I)I"⟩
abbrev cX8_place : ByteArray := prog_1_method_19_code
def yX8_place : MethodName := ⟨RX8, "place", "(II)I"⟩
abbrev cX8_gets : ByteArray := prog_1_method_20_code
def yX8_gets : MethodName := ⟨RX8, "gets", "(II)I"⟩
abbrev cX8_seen : ByteArray := prog_1_method_21_code
def yX8_seen : MethodName := ⟨RX8, "seen", "(I)I"⟩
abbrev cX8_stays : ByteArray := prog_1_method_22_code
def yX8_stays : MethodName := ⟨RX8, "stays", "(I)I"⟩
abbrev cX8_ahead : ByteArray := prog_1_method_23_code
def yX8_ahead : MethodName := ⟨RX8, "ahead", "(I)I"⟩
abbrev cX8_effort : ByteArray := prog_1_method_24_code
def yX8_effort : MethodName := ⟨RX8, "effort", "(I)I"⟩
abbrev cX8_follow : ByteArray := prog_1_method_25_code
def yX8_follow : MethodName := ⟨RX8, "follow", "(III)I"⟩
abbrev cX8_turns : ByteArray := prog_1_method_26_code
def yX8_turns : MethodName := ⟨RX8, "turns", "(II)I"⟩
abbrev cX8_most : ByteArray := prog_1_method_27_code
def yX8_most : MethodName := ⟨RX8, "most", "(III)I"⟩
abbrev cX8_by : ByteArray := prog_1_method_28_code
def yX8_by : MethodName := ⟨RX8, "by", "(II)I"⟩
abbrev cX8_order : ByteArray := prog_1_method_29_code
def yX8_order : MethodName := ⟨RX8, "order", "(I)I"⟩
abbrev cX8_kinds : ByteArray := prog_1_method_30_code
def yX8_kinds : MethodName := ⟨RX8, "kinds", "(II)I"⟩
abbrev cX8_places : ByteArray := prog_1_method_31_code
def yX8_places : MethodName := ⟨RX8, "places", "(II)I"⟩
abbrev cX8_speeds : ByteArray := prog_1_method_32_code
def yX8_speeds : MethodName := ⟨RX8, "speeds", "(II)I"⟩
abbrev cX8_fainter : ByteArray := prog_1_method_33_code
def yX8_fainter : MethodName := ⟨RX8, "fainter", "(II)I"⟩
abbrev cX8_cloud : ByteArray := prog_1_method_34_code
def yX8_cloud : MethodName := ⟨RX8, "cloud", "(II)I"⟩
abbrev cX8_mid : ByteArray := prog_1_method_35_code
def yX8_mid : MethodName := ⟨RX8, "mid", "(III)I"⟩
abbrev cX8_odds : ByteArray := prog_1_method_36_code
def yX8_odds : MethodName := ⟨RX8, "odds", "(III)I"⟩
abbrev cX8_lots : ByteArray := prog_1_method_37_code
def yX8_lots : MethodName := ⟨RX8, "lots", "(II)I"⟩
abbrev cX8_asked : ByteArray := prog_1_method_38_code
def yX8_asked : MethodName := ⟨RX8, "asked", "()I"⟩
abbrev cX8_upper : ByteArray := prog_1_method_39_code
def yX8_upper : MethodName := ⟨RX8, "upper", "()J"⟩
abbrev cX8_lower : ByteArray := prog_1_method_40_code
def yX8_lower : MethodName := ⟨RX8, "lower", "()J"⟩
abbrev cX8_count : ByteArray := prog_1_method_41_code
def yX8_count : MethodName := ⟨RX8, "count", "(I)I"⟩
abbrev cX8_finding : ByteArray := prog_1_method_42_code
def yX8_finding : MethodName := ⟨RX8, "finding", "()I"⟩
abbrev cX8_findings : ByteArray := prog_1_method_43_code
def yX8_findings : MethodName := ⟨RX8, "findings", "(I)I"⟩
abbrev cX8_digest : ByteArray := prog_1_method_44_code
def yX8_digest : MethodName := ⟨RX8, "digest", "()J"⟩
abbrev cX8_round : ByteArray := prog_1_method_45_code
def yX8_round : MethodName := ⟨RX8, "round", "(I)I"⟩
abbrev cX8_isTooFar : ByteArray := prog_1_method_46_code
def yX8_isTooFar : MethodName := ⟨RX8, "isTooFar", "(I)Z"⟩
abbrev cX8_isNoFollowing : ByteArray := prog_1_method_47_code
def yX8_isNoFollowing : MethodName := ⟨RX8, "isNoFollowing", "(I)Z"⟩
abbrev cX8_lineAt : ByteArray := prog_1_method_48_code
def yX8_lineAt : MethodName := ⟨RX8, "lineAt", "([LDomeSlit$Line;I)LDomeSlit$Line;"⟩
abbrev cX8_lightAt : ByteArray := prog_1_method_49_code
def yX8_lightAt : MethodName := ⟨RX8, "lightAt", "(I)LDomeSlit$Light;"⟩
abbrev cX8_found : ByteArray := prog_1_method_50_code
def yX8_found : MethodName := ⟨RX8, "found", "(I)I"⟩
abbrev cX8_renewed : ByteArray := prog_1_method_51_code
def yX8_renewed : MethodName := ⟨RX8, "renewed", "(LDomeSlit$Line;II)I"⟩
abbrev cX8_refuseLine : ByteArray := prog_1_method_52_code
def yX8_refuseLine : MethodName := ⟨RX8, "refuseLine", "(LDomeSlit$Line;)I"⟩
abbrev cX8_refusePlace : ByteArray := prog_1_method_53_code
def yX8_refusePlace : MethodName := ⟨RX8, "refusePlace", "(LDomeSlit$Line;I)I"⟩
abbrev cX8_refuseTurns : ByteArray := prog_1_method_54_code
def yX8_refuseTurns : MethodName := ⟨RX8, "refuseTurns", "(LDomeSlit$Line;)I"⟩
abbrev cX8_refuseNotes : ByteArray := prog_1_method_55_code
def yX8_refuseNotes : MethodName := ⟨RX8, "refuseNotes", "(LDomeSlit$Line;)I"⟩
abbrev cX8_gainIn : ByteArray := prog_1_method_56_code
def yX8_gainIn : MethodName := ⟨RX8, "gainIn", "(LDomeSlit$Light;I)I"⟩
abbrev cX8_timesOver : ByteArray := prog_1_method_57_code
def yX8_timesOver : MethodName := ⟨RX8, "timesOver", "(LDomeSlit$Light;I)I"⟩
abbrev cX8_overFor : ByteArray := prog_1_method_58_code
def yX8_overFor : MethodName := ⟨RX8, "overFor", "(LDomeSlit$Light;I)I"⟩
abbrev cX8_guessed : ByteArray := prog_1_method_59_code
def yX8_guessed : MethodName := ⟨RX8, "guessed", "(III)I"⟩
abbrev cX8_guessFits : ByteArray := prog_1_method_60_code
def yX8_guessFits : MethodName := ⟨RX8, "guessFits", "(LDomeSlit$Line;)Z"⟩
abbrev cX8_passMoment : ByteArray := prog_1_method_61_code
def yX8_passMoment : MethodName := ⟨RX8, "passMoment", "()I"⟩
abbrev cX8_bySleep : ByteArray := prog_1_method_62_code
def yX8_bySleep : MethodName := ⟨RX8, "bySleep", "(IIIZ)I"⟩
abbrev cX8_tellChances : ByteArray := prog_1_method_63_code
def yX8_tellChances : MethodName := ⟨RX8, "tellChances", "(JJ)V"⟩
abbrev cX8_greatestCommon : ByteArray := prog_1_method_64_code
def yX8_greatestCommon : MethodName := ⟨RX8, "greatestCommon", "(JJ)J"⟩
abbrev cX8_factOf : ByteArray := prog_1_method_65_code
def yX8_factOf : MethodName := ⟨RX8, "factOf", "(LDomeSlit$Light;I)I"⟩
abbrev cX8_counted : ByteArray := prog_1_method_66_code
def yX8_counted : MethodName := ⟨RX8, "counted", "(I)I"⟩
abbrev cX8_lightsOf : ByteArray := prog_1_method_67_code
def yX8_lightsOf : MethodName := ⟨RX8, "lightsOf", "(I)I"⟩
abbrev cX8_linesThere : ByteArray := prog_1_method_68_code
def yX8_linesThere : MethodName := ⟨RX8, "linesThere", "([LDomeSlit$Line;)I"⟩
abbrev cX8_keptThere : ByteArray := prog_1_method_69_code
def yX8_keptThere : MethodName := ⟨RX8, "keptThere", "()I"⟩
def RX9 : String := "DomeSlitModel"
def TX9 : u_T := fun k => match k with
  | 0 => ("DomeSlitModel", "row", "[I", true)
  | 1 => ("DomeSlitModel", "broad", "I", false)
  | 2 => ("DomeSlitModel", "sticks", "I", false)
  | 3 => ("DomeSlitModel", "lights", "I", false)
  | 4 => ("DomeSlitModel", "kinds", "[I", true)
  | 5 => ("DomeSlitModel", "begun", "[I", true)
  | 6 => ("DomeSlitModel", "speeds", "[I", true)
  | 7 => ("DomeSlitModel", "brights", "[I", true)
  | 8 => ("DomeSlitModel", "sizes", "[I", true)
  | 9 => ("DomeSlitModel", "items", "[I", true)
  | 10 => ("DomeSlitModel", "lengths", "[I", true)
  | 11 => ("DomeSlitModel", "bytes", "[I", true)
  | 12 => ("DomeSlitModel", "asked", "I", false)
  | 13 => ("DomeSlitModel", "upper", "J", false)
  | 14 => ("DomeSlitModel", "lower", "J", false)
  | 15 => ("DomeSlitModel", "finding", "I", false)
  | 16 => ("DomeSlitModel", "findings", "[I", true)
  | 17 => ("DomeSlitModel", "from", "I", false)
  | 18 => ("DomeSlitModel", "place", "I", false)
  | 19 => ("DomeSlitModel", "end", "I", false)
  | 20 => ("DomeSlitModel", "readBroad", "I", false)
  | 21 => ("DomeSlitModel", "readSticks", "I", false)
  | 22 => ("DomeSlitModel", "readLights", "[I", true)
  | 23 => ("DomeSlitModel", "readMany", "I", false)
  | 24 => ("DomeSlitModel", "least", "[I", true)
  | 25 => ("DomeSlitModel", "efforts", "[I", true)
  | 26 => ("DomeSlitModel", "most", "[I", true)
  | 27 => ("DomeSlitModel", "more", "[I", true)
  | 28 => ("DomeSlitModel", "order", "[I", true)
  | 29 => ("DomeSlitModel", "clouds", "[I", true)
  | 30 => ("DomeSlitModel", "ahead", "[I", true)
  | 31 => ("DomeSlitModel", "gotAll", "I", false)
  | _ => ("DomeSlitModel", "gotEach", "Z", false)
def tyX9 : Nat → FieldType := fun k => match k with
  | 0 => .array .int
  | 1 => .int
  | 2 => .int
  | 3 => .int
  | 4 => .array .int
  | 5 => .array .int
  | 6 => .array .int
  | 7 => .array .int
  | 8 => .array .int
  | 9 => .array .int
  | 10 => .array .int
  | 11 => .array .int
  | 12 => .int
  | 13 => .long
  | 14 => .long
  | 15 => .int
  | 16 => .array .int
  | 17 => .int
  | 18 => .int
  | 19 => .int
  | 20 => .int
  | 21 => .int
  | 22 => .array .int
  | 23 => .int
  | 24 => .array .int
  | 25 => .array .int
  | 26 => .array .int
  | 27 => .array .int
  | 28 => .array .int
  | 29 => .array .int
  | 30 => .array .int
  | 31 => .int
  | _ => .boolean
theorem nmX9 : ∀ a, a < 33 → ∀ b, b < 33 → a ≠ b → (TX9 a).2.1 ≠ (TX9 b).2.1 := by decide +kernel
theorem tyX9_ok : ∀ k, k < 33 → parseFieldDescriptor (TX9 k).2.2.1 = some (tyX9 k) := by decide +kernel
abbrev cX9_init : ByteArray := prog_11_method_1_code
def yX9_init : MethodName := ⟨RX9, "<init>", "()V"⟩
abbrev cX9_in : ByteArray := prog_11_method_2_code
def yX9_in : MethodName := ⟨RX9, "in", "(JJJ)Z"⟩
abbrev cX9_has : ByteArray := prog_11_method_3_code
def yX9_has : MethodName := ⟨RX9, "has", "(II)Z"⟩
abbrev cX9_find : ByteArray := prog_11_method_4_code
def yX9_find : MethodName := ⟨RX9, "find", "(I)I"⟩
abbrev cX9_tell : ByteArray := prog_11_method_5_code
def yX9_tell : MethodName := ⟨RX9, "tell", "(I)I"⟩
abbrev cX9_isRow : ByteArray := prog_11_method_6_code
def yX9_isRow : MethodName := ⟨RX9, "isRow", "(I)Z"⟩
abbrev cX9_isText : ByteArray := prog_11_method_7_code
def yX9_isText : MethodName := ⟨RX9, "isText", "(I)Z"⟩
abbrev cX9_row : ByteArray := prog_11_method_8_code
def yX9_row : MethodName := ⟨RX9, "row", "(II)I"⟩
abbrev cX9_makeRow : ByteArray := prog_11_method_9_code
def yX9_makeRow : MethodName := ⟨RX9, "makeRow", "(II)V"⟩
abbrev cX9_refused : ByteArray := prog_11_method_10_code
def yX9_refused : MethodName := ⟨RX9, "refused", "(II)I"⟩
abbrev cX9_lay : ByteArray := prog_11_method_11_code
def yX9_lay : MethodName := ⟨RX9, "lay", "(III)I"⟩
abbrev cX9_at : ByteArray := prog_11_method_12_code
def yX9_at : MethodName := ⟨RX9, "at", "(II)I"⟩
abbrev cX9_tear : ByteArray := prog_11_method_13_code
def yX9_tear : MethodName := ⟨RX9, "tear", "(I)I"⟩
abbrev cX9_isSpan : ByteArray := prog_11_method_14_code
def yX9_isSpan : MethodName := ⟨RX9, "isSpan", "(III)Z"⟩
abbrev cX9_copy : ByteArray := prog_11_method_15_code
def yX9_copy : MethodName := ⟨RX9, "copy", "(IIIII)I"⟩
abbrev cX9_mean : ByteArray := prog_11_method_16_code
def yX9_mean : MethodName := ⟨RX9, "mean", "(I)I"⟩
abbrev cX9_text : ByteArray := prog_11_method_17_code
def yX9_text : MethodName := ⟨RX9, "text", "(II)I"⟩
abbrev cX9_put : ByteArray := prog_11_method_18_code
def yX9_put : MethodName := ⟨RX9, "put", "(III)I"⟩
abbrev cX9_here : ByteArray := prog_11_method_19_code
def yX9_here : MethodName := ⟨RX9, "here", "()I"⟩
abbrev cX9_skip : ByteArray := prog_11_method_20_code
def yX9_skip : MethodName := ⟨RX9, "skip", "()V"⟩
abbrev cX9_figure : ByteArray := prog_11_method_21_code
def yX9_figure : MethodName := ⟨RX9, "figure", "(II)I"⟩
abbrev cX9_figures : ByteArray := prog_11_method_22_code
def yX9_figures : MethodName := ⟨RX9, "figures", "()I"⟩
abbrev cX9_readsSlit : ByteArray := prog_11_method_23_code
def yX9_readsSlit : MethodName := ⟨RX9, "readsSlit", "()Z"⟩
abbrev cX9_kindOfLetter : ByteArray := prog_11_method_24_code
def yX9_kindOfLetter : MethodName := ⟨RX9, "kindOfLetter", "(I)I"⟩
abbrev cX9_readsLight : ByteArray := prog_11_method_25_code
def yX9_readsLight : MethodName := ⟨RX9, "readsLight", "()Z"⟩
abbrev cX9_faultOf : ByteArray := prog_11_method_26_code
def yX9_faultOf : MethodName := ⟨RX9, "faultOf", "(I)I"⟩
abbrev cX9_fault : ByteArray := prog_11_method_27_code
def yX9_fault : MethodName := ⟨RX9, "fault", "(I)I"⟩
abbrev cX9_dome : ByteArray := prog_11_method_28_code
def yX9_dome : MethodName := ⟨RX9, "dome", "(I)I"⟩
abbrev cX9_isLight : ByteArray := prog_11_method_29_code
def yX9_isLight : MethodName := ⟨RX9, "isLight", "(I)Z"⟩
abbrev cX9_ring : ByteArray := prog_11_method_30_code
def yX9_ring : MethodName := ⟨RX9, "ring", "(I)I"⟩
abbrev cX9_moved : ByteArray := prog_11_method_31_code
def yX9_moved : MethodName := ⟨RX9, "moved", "(III)I"⟩
abbrev cX9_placeAt : ByteArray := prog_11_method_32_code
def yX9_placeAt : MethodName := ⟨RX9, "placeAt", "(II)I"⟩
abbrev cX9_now : ByteArray := prog_11_method_33_code
def yX9_now : MethodName := ⟨RX9, "now", "(I)I"⟩
abbrev cX9_brightOf : ByteArray := prog_11_method_34_code
def yX9_brightOf : MethodName := ⟨RX9, "brightOf", "(III)I"⟩
abbrev cX9_brightAt : ByteArray := prog_11_method_35_code
def yX9_brightAt : MethodName := ⟨RX9, "brightAt", "(II)I"⟩
abbrev cX9_times : ByteArray := prog_11_method_36_code
def yX9_times : MethodName := ⟨RX9, "times", "(II)I"⟩
abbrev cX9_got : ByteArray := prog_11_method_37_code
def yX9_got : MethodName := ⟨RX9, "got", "(III)I"⟩
abbrev cX9_gotNow : ByteArray := prog_11_method_38_code
def yX9_gotNow : MethodName := ⟨RX9, "gotNow", "()I"⟩
abbrev cX9_toldOf : ByteArray := prog_11_method_39_code
def yX9_toldOf : MethodName := ⟨RX9, "toldOf", "(II)I"⟩
abbrev cX9_light : ByteArray := prog_11_method_40_code
def yX9_light : MethodName := ⟨RX9, "light", "(II)I"⟩
abbrev cX9_isOf : ByteArray := prog_11_method_41_code
def yX9_isOf : MethodName := ⟨RX9, "isOf", "(II)Z"⟩
abbrev cX9_moves : ByteArray := prog_11_method_42_code
def yX9_moves : MethodName := ⟨RX9, "moves", "(I)I"⟩
abbrev cX9_back : ByteArray := prog_11_method_43_code
def yX9_back : MethodName := ⟨RX9, "back", "(I)I"⟩
abbrev cX9_fourBrights : ByteArray := prog_11_method_44_code
def yX9_fourBrights : MethodName := ⟨RX9, "fourBrights", "(I)I"⟩
abbrev cX9_offBest : ByteArray := prog_11_method_45_code
def yX9_offBest : MethodName := ⟨RX9, "offBest", "(I)I"⟩
abbrev cX9_mark : ByteArray := prog_11_method_46_code
def yX9_mark : MethodName := ⟨RX9, "mark", "(II)I"⟩
abbrev cX9_keepPast : ByteArray := prog_11_method_47_code
def yX9_keepPast : MethodName := ⟨RX9, "keepPast", "()V"⟩
abbrev cX9_doMoment : ByteArray := prog_11_method_48_code
def yX9_doMoment : MethodName := ⟨RX9, "doMoment", "()I"⟩
abbrev cX9_moment : ByteArray := prog_11_method_49_code
def yX9_moment : MethodName := ⟨RX9, "moment", "()I"⟩
abbrev cX9_effortFrom : ByteArray := prog_11_method_50_code
def yX9_effortFrom : MethodName := ⟨RX9, "effortFrom", "(II)I"⟩
abbrev cX9_doTurn : ByteArray := prog_11_method_51_code
def yX9_doTurn : MethodName := ⟨RX9, "doTurn", "(I)I"⟩
abbrev cX9_turn : ByteArray := prog_11_method_52_code
def yX9_turn : MethodName := ⟨RX9, "turn", "(I)I"⟩
abbrev cX9_undo : ByteArray := prog_11_method_53_code
def yX9_undo : MethodName := ⟨RX9, "undo", "(I)I"⟩
abbrev cX9_copyDome : ByteArray := prog_11_method_54_code
def yX9_copyDome : MethodName := ⟨RX9, "copyDome", "(II)V"⟩
abbrev cX9_keep : ByteArray := prog_11_method_55_code
def yX9_keep : MethodName := ⟨RX9, "keep", "(I)I"⟩
abbrev cX9_on : ByteArray := prog_11_method_56_code
def yX9_on : MethodName := ⟨RX9, "on", "(I)I"⟩
abbrev cX9_isAhead : ByteArray := prog_11_method_57_code
def yX9_isAhead : MethodName := ⟨RX9, "isAhead", "(I)Z"⟩
abbrev cX9_place : ByteArray := prog_11_method_58_code
def yX9_place : MethodName := ⟨RX9, "place", "(II)I"⟩
abbrev cX9_gets : ByteArray := prog_11_method_59_code
def yX9_gets : MethodName := ⟨RX9, "gets", "(II)I"⟩
abbrev cX9_seen : ByteArray := prog_11_method_60_code
def yX9_seen : MethodName := ⟨RX9, "seen", "(I)I"⟩
abbrev cX9_stays : ByteArray := prog_11_method_61_code
def yX9_stays : MethodName := ⟨RX9, "stays", "(I)I"⟩
abbrev cX9_over : ByteArray := prog_11_method_62_code
def yX9_over : MethodName := ⟨RX9, "over", "(II)I"⟩
abbrev cX9_ahead : ByteArray := prog_11_method_63_code
def yX9_ahead : MethodName := ⟨RX9, "ahead", "(I)I"⟩
abbrev cX9_effort : ByteArray := prog_11_method_64_code
def yX9_effort : MethodName := ⟨RX9, "effort", "(I)I"⟩
abbrev cX9_layEfforts : ByteArray := prog_11_method_65_code
def yX9_layEfforts : MethodName := ⟨RX9, "layEfforts", "()V"⟩
abbrev cX9_costOf : ByteArray := prog_11_method_66_code
def yX9_costOf : MethodName := ⟨RX9, "costOf", "(IIZ)I"⟩
abbrev cX9_onBy : ByteArray := prog_11_method_67_code
def yX9_onBy : MethodName := ⟨RX9, "onBy", "(IIIIZ)I"⟩
abbrev cX9_layLeast : ByteArray := prog_11_method_68_code
def yX9_layLeast : MethodName := ⟨RX9, "layLeast", "(IIZ)V"⟩
abbrev cX9_follow : ByteArray := prog_11_method_69_code
def yX9_follow : MethodName := ⟨RX9, "follow", "(III)I"⟩
abbrev cX9_turns : ByteArray := prog_11_method_70_code
def yX9_turns : MethodName := ⟨RX9, "turns", "(II)I"⟩
abbrev cX9_most : ByteArray := prog_11_method_71_code
def yX9_most : MethodName := ⟨RX9, "most", "(III)I"⟩
abbrev cX9_areAll : ByteArray := prog_11_method_72_code
def yX9_areAll : MethodName := ⟨RX9, "areAll", "(III)Z"⟩
abbrev cX9_noTurns : ByteArray := prog_11_method_73_code
def yX9_noTurns : MethodName := ⟨RX9, "noTurns", "(I)I"⟩
abbrev cX9_by : ByteArray := prog_11_method_74_code
def yX9_by : MethodName := ⟨RX9, "by", "(II)I"⟩
abbrev cX9_nextOrder : ByteArray := prog_11_method_75_code
def yX9_nextOrder : MethodName := ⟨RX9, "nextOrder", "(I)Z"⟩
abbrev cX9_orderEffort : ByteArray := prog_11_method_76_code
def yX9_orderEffort : MethodName := ⟨RX9, "orderEffort", "()I"⟩
abbrev cX9_order : ByteArray := prog_11_method_77_code
def yX9_order : MethodName := ⟨RX9, "order", "(I)I"⟩
abbrev cX9_noNotes : ByteArray := prog_11_method_78_code
def yX9_noNotes : MethodName := ⟨RX9, "noNotes", "(I)I"⟩
abbrev cX9_isSo : ByteArray := prog_11_method_79_code
def yX9_isSo : MethodName := ⟨RX9, "isSo", "(IIIII)Z"⟩
abbrev cX9_kinds : ByteArray := prog_11_method_80_code
def yX9_kinds : MethodName := ⟨RX9, "kinds", "(II)I"⟩
abbrev cX9_places : ByteArray := prog_11_method_81_code
def yX9_places : MethodName := ⟨RX9, "places", "(II)I"⟩
abbrev cX9_speeds : ByteArray := prog_11_method_82_code
def yX9_speeds : MethodName := ⟨RX9, "speeds", "(II)I"⟩
abbrev cX9_fainter : ByteArray := prog_11_method_83_code
def yX9_fainter : MethodName := ⟨RX9, "fainter", "(II)I"⟩
abbrev cX9_worseOf : ByteArray := prog_11_method_84_code
def yX9_worseOf : MethodName := ⟨RX9, "worseOf", "(IIII)I"⟩
abbrev cX9_cloud : ByteArray := prog_11_method_85_code
def yX9_cloud : MethodName := ⟨RX9, "cloud", "(II)I"⟩
abbrev cX9_tellParts : ByteArray := prog_11_method_86_code
def yX9_tellParts : MethodName := ⟨RX9, "tellParts", "(JJ)I"⟩
abbrev cX9_layAsleep : ByteArray := prog_11_method_87_code
def yX9_layAsleep : MethodName := ⟨RX9, "layAsleep", "(III)V"⟩
abbrev cX9_waysOf : ByteArray := prog_11_method_88_code
def yX9_waysOf : MethodName := ⟨RX9, "waysOf", "(III)J"⟩
abbrev cX9_tellAsleep : ByteArray := prog_11_method_89_code
def yX9_tellAsleep : MethodName := ⟨RX9, "tellAsleep", "(IIIZ)I"⟩
abbrev cX9_mid : ByteArray := prog_11_method_90_code
def yX9_mid : MethodName := ⟨RX9, "mid", "(III)I"⟩
abbrev cX9_odds : ByteArray := prog_11_method_91_code
def yX9_odds : MethodName := ⟨RX9, "odds", "(III)I"⟩
abbrev cX9_lots : ByteArray := prog_11_method_92_code
def yX9_lots : MethodName := ⟨RX9, "lots", "(II)I"⟩
abbrev cX9_asked : ByteArray := prog_11_method_93_code
def yX9_asked : MethodName := ⟨RX9, "asked", "()I"⟩
abbrev cX9_upper : ByteArray := prog_11_method_94_code
def yX9_upper : MethodName := ⟨RX9, "upper", "()J"⟩
abbrev cX9_lower : ByteArray := prog_11_method_95_code
def yX9_lower : MethodName := ⟨RX9, "lower", "()J"⟩
abbrev cX9_kindMany : ByteArray := prog_11_method_96_code
def yX9_kindMany : MethodName := ⟨RX9, "kindMany", "(I)I"⟩
abbrev cX9_thereOf : ByteArray := prog_11_method_97_code
def yX9_thereOf : MethodName := ⟨RX9, "thereOf", "(I)I"⟩
abbrev cX9_countOf : ByteArray := prog_11_method_98_code
def yX9_countOf : MethodName := ⟨RX9, "countOf", "(I)I"⟩
abbrev cX9_count : ByteArray := prog_11_method_99_code
def yX9_count : MethodName := ⟨RX9, "count", "(I)I"⟩
abbrev cX9_finding : ByteArray := prog_11_method_100_code
def yX9_finding : MethodName := ⟨RX9, "finding", "()I"⟩
abbrev cX9_findings : ByteArray := prog_11_method_101_code
def yX9_findings : MethodName := ⟨RX9, "findings", "(I)I"⟩
abbrev cX9_digest : ByteArray := prog_11_method_102_code
def yX9_digest : MethodName := ⟨RX9, "digest", "()J"⟩
def RJ6 : String := "java/lang/Integer"
abbrev cJ6_bitCount_0f7a4 : ByteArray := prog_12_method_49_code
def yJ6_bitCount_0f7a4 : MethodName := ⟨RJ6, "bitCount", "(I)I"⟩
def RJ9 : String := "java/lang/Math"
abbrev cJ9_floorMod_7cf53 : ByteArray := prog_13_method_50_code
def yJ9_floorMod_7cf53 : MethodName := ⟨RJ9, "floorMod", "(II)I"⟩
abbrev cJ9_abs_0f7a4 : ByteArray := prog_13_method_59_code
def yJ9_abs_0f7a4 : MethodName := ⟨RJ9, "abs", "(I)I"⟩
abbrev cJ9_max_7cf53 : ByteArray := prog_13_method_65_code
def yJ9_max_7cf53 : MethodName := ⟨RJ9, "max", "(II)I"⟩
abbrev cJ9_min_7cf53 : ByteArray := prog_13_method_69_code
def yJ9_min_7cf53 : MethodName := ⟨RJ9, "min", "(II)I"⟩
def RJ10 : String := "java/lang/System"
def RJ7 : String := "java/util/Arrays"
abbrev cJ7_rangeCheck_23922 : ByteArray := prog_15_method_30_code
def yJ7_rangeCheck_23922 : MethodName := ⟨RJ7, "rangeCheck", "(III)V"⟩
abbrev cJ7_fill_d0a16 : ByteArray := prog_15_method_101_code
def yJ7_fill_d0a16 : MethodName := ⟨RJ7, "fill", "([JJ)V"⟩
abbrev cJ7_fill_53178 : ByteArray := prog_15_method_103_code
def yJ7_fill_53178 : MethodName := ⟨RJ7, "fill", "([II)V"⟩
abbrev cJ7_fill_fda19 : ByteArray := prog_15_method_104_code
def yJ7_fill_fda19 : MethodName := ⟨RJ7, "fill", "([IIII)V"⟩
def RL : String := "DomeSlitLaw"
abbrev cL_law : ByteArray := code
def yL_law : MethodName := ⟨RL, "law", "([I)Z"⟩
abbrev vwCl : List vw_C := [(RX0, TX0, 4), (RX1, TX1, 4), (RX2, TX2, 2), (RX3, TX3, 5), (RX4, TX4, 6), (RX5, TX5, 4), (RX6, TX6, 2), (RX7, TX7, 1), (RX8, TX8, 17), (RX9, TX9, 33)]
end
section
/-! A small machine of our own over the abstract heap: a step of a method is a function (x_fun); a run goes by fuel (x_run), a call by depth (x_ev). -/
abbrev XE : Type := Instr × Nat × Nat × Nat × Nat × Nat
abbrev XM : Type := MethodName × ByteArray × Nat × Option FieldType × List XE
abbrev XH : Type := List va_E
abbrev XL : Type := List (Option Value)
abbrev XX : Type := Nat × (Nat → Int32)
abbrev XO : Type := (Nat × XL × List Value × XH) ⊕ ((Option Value × XH) ⊕ (Nat × List Value × List Value))
def x_let (j : Nat) : Int32 := match j with
  | 0 => 115
  | 1 => 108
  | 2 => 104
  | 3 => 118
  | 4 => 112
  | _ => 102
def x_ro (X : XX) (a : Nat) : Option (Nat × (Nat → Int32)) := if a = 1000 then some X else if a = 1001 then some (6, x_let) else none
def x_ld (L : XL) (i : Nat) : Option Value := match L[i]? with
  | some (some v) => some v
  | _ => none
def x_clr (L : XL) (i : Nat) : XL := match i with
  | 0 => L
  | i + 1 => match L[i]? with
    | some (some v) => if v.category = 2 then L.set i none else L
    | _ => L
def x_st1 (L : XL) (i : Nat) (v : Value) : Option XL := if i < L.length then some ((x_clr L i).set i (some v)) else none
def x_st2 (L : XL) (i : Nat) (v : Value) : Option XL := if i + 1 < L.length then some (((x_clr L i).set (i + 1) none).set i (some v)) else none
def x_nx (n : Nat) (L : XL) (h : XH) (o : Option (List Value)) : Option XO := match o with
  | some st => some (.inl (n, L, st, h))
  | none => none
def x_sx (n : Nat) (st : List Value) (h : XH) (o : Option XL) : Option XO := match o with
  | some L => some (.inl (n, L, st, h))
  | none => none
def x_bI (f : Int32 → Int32 → Int32) (st : List Value) : Option (List Value) := match st with
  | .int y :: .int x :: r => some (.int (f x y) :: r)
  | _ => none
def x_dI (f : Int32 → Int32 → Int32) (st : List Value) : Option (List Value) := match st with
  | .int y :: .int x :: r => if y = 0 then none else some (.int (f x y) :: r)
  | _ => none
def x_bL (f : Int64 → Int64 → Int64) (st : List Value) : Option (List Value) := match st with
  | .long y :: .long x :: r => some (.long (f x y) :: r)
  | _ => none
def x_dL (f : Int64 → Int64 → Int64) (st : List Value) : Option (List Value) := match st with
  | .long y :: .long x :: r => if y = 0 then none else some (.long (f x y) :: r)
  | _ => none
def x_uI (f : Int32 → Value) (st : List Value) : Option (List Value) := match st with
  | .int x :: r => some (f x :: r)
  | _ => none
def x_uL (f : Int64 → Value) (st : List Value) : Option (List Value) := match st with
  | .long x :: r => some (f x :: r)
  | _ => none
def x_isI : Value → Bool
  | .int _ => true
  | _ => false
def x_isL : Value → Bool
  | .long _ => true
  | _ => false
def x_isA : Value → Bool
  | .ref _ => true
  | .null => true
  | _ => false
def x_lc (p : Value → Bool) (L : XL) (i : Nat) (st : List Value) : Option (List Value) := match x_ld L i with
  | some v => if p v = true then some (v :: st) else none
  | none => none
def x_cI (n : Nat) (L : XL) (i : Nat) (st : List Value) (h : XH) : Option XO := match st with
  | .int x :: r => x_sx n r h (x_st1 L i (.int x))
  | _ => none
def x_cL (n : Nat) (L : XL) (i : Nat) (st : List Value) (h : XH) : Option XO := match st with
  | .long x :: r => x_sx n r h (x_st2 L i (.long x))
  | _ => none
def x_cA (n : Nat) (L : XL) (i : Nat) (st : List Value) (h : XH) : Option XO := match st with
  | .ref x :: r => x_sx n r h (x_st1 L i (.ref x))
  | .null :: r => x_sx n r h (x_st1 L i .null)
  | _ => none
def x_cnd (c : Jvm.ClassFile.Cond) (x y : Int32) : Prop := match c with
  | .eq => x = y
  | .ne => ¬ x = y
  | .lt => x < y
  | .ge => y ≤ x
  | .gt => y < x
  | .le => x ≤ y
def x_cdc (c : Jvm.ClassFile.Cond) (x y : Int32) : Bool := match c with
  | .eq => decide (x = y)
  | .ne => decide (¬ x = y)
  | .lt => decide (x < y)
  | .ge => decide (y ≤ x)
  | .gt => decide (y < x)
  | .le => decide (x ≤ y)
theorem x_cdc_iff (c : Jvm.ClassFile.Cond) (x y : Int32) : x_cdc c x y = true ↔ x_cnd c x y := by
  cases c <;> simp [x_cdc, x_cnd]
def x_tgt (pc : Nat) (off : Int) : Option Nat := if (pc : Int) + off < 0 then none else some ((pc : Int) + off).toNat
def x_sw (pc : Nat) (d lo hi : Int) (offs : Array Int) (x : Int32) : Option Nat :=
  if x.toInt < lo ∨ hi < x.toInt then x_tgt pc d else match offs[(x.toInt - lo).toNat]? with
    | some off => x_tgt pc off
    | none => none
/-- the fields' types, by class -/
def x_fts : List (List FieldType) := [[.object "DomeSlit$Slit", .object "DomeSlit$View", .array .int, .array .int], [.int, .int, .int, .int], [.array .int, .int], [.array .int, .int, .int, .int, .int], [.array .int, .int, .int, .int, .int, .boolean], [.object "DomeSlit$View", .array .long, .array .long, .long], [.int, .int], [.array .int], [.array (.object "DomeSlit$Line"), .array (.object "DomeSlit$Line"), .object "DomeSlit$Reader", .array (.object "DomeSlit$Light"), .object "DomeSlit$Light", .object "DomeSlit$Slit", .object "DomeSlit$Night", .array (.object "DomeSlit$Night"), .object "DomeSlit$View", .object "DomeSlit$Follower", .object "DomeSlit$Sleeper", .array .int, .int, .int, .int, .long, .long], [.array .int, .int, .int, .int, .array .int, .array .int, .array .int, .array .int, .array .int, .array .int, .array .int, .array .int, .int, .long, .long, .int, .array .int, .int, .int, .int, .int, .int, .array .int, .int, .array .int, .array .int, .array .int, .array .int, .array .int, .array .int, .array .int, .int, .boolean]]
def x_ft (ci k : Nat) : Option FieldType := match x_fts[ci]? with
  | some l => l[k]?
  | none => none
def x_def (ty : FieldType) : Value := match ty with
  | .long => .long 0
  | .object _ => .null
  | .array _ => .null
  | _ => .int 0
/-- which class's objects an array of references holds -/
def x_acl (t : Nat) : Option Nat := match t with
  | 2 => some 2
  | 3 => some 1
  | 4 => some 3
  | _ => none
def x_fin (ci k : Nat) : Bool := match vwCl[ci]? with
  | some q => (q.2.1 k).2.2.2
  | none => false
def x_get (n : Nat) (L : XL) (st : List Value) (h : XH) (ci k : Nat) : Option XO := match st with
  | .ref a :: r => match h[a]? with
    | some (.inr (c, fs)) => if c = ci then x_nx n L h ((fs[k]?).map (fun v => v :: r)) else none
    | _ => none
  | _ => none
def x_put (init : Bool) (n : Nat) (L : XL) (st : List Value) (h : XH) (ci k : Nat) : Option XO := match st with
  | v :: .ref a :: r => match h[a]? with
    | some (.inr (c, fs)) => match x_ft ci k with
      | some ty => if c = ci ∧ k < fs.length ∧ fits ty v = true ∧ (x_fin ci k = true → init = true) then some (.inl (n, L, r, h.set a (.inr (c, fs.set k v)))) else none
      | none => none
    | _ => none
  | _ => none
def x_iald (X : XX) (n : Nat) (L : XL) (st : List Value) (h : XH) : Option XO := match st with
  | .int i :: .ref a :: r => match x_ro X a with
    | some q => if i < 0 ∨ q.1 ≤ i.toNatClampNeg then none else some (.inl (n, L, .int (q.2 i.toNatClampNeg) :: r, h))
    | none => match h[a]? with
      | some (.inl (0, m, .inl f)) => if i < 0 ∨ m ≤ i.toNatClampNeg then none else some (.inl (n, L, .int (f i.toNatClampNeg) :: r, h))
      | _ => none
  | _ => none
def x_iast (n : Nat) (L : XL) (st : List Value) (h : XH) : Option XO := match st with
  | .int x :: .int i :: .ref a :: r => match h[a]? with
      | some (.inl (0, m, .inl f)) => if i < 0 ∨ m ≤ i.toNatClampNeg then none else some (.inl (n, L, r, h.set a (.inl (0, m, .inl (upd f i.toNatClampNeg x)))))
      | _ => none
  | _ => none
def x_lald (n : Nat) (L : XL) (st : List Value) (h : XH) : Option XO := match st with
  | .int i :: .ref a :: r => match h[a]? with
      | some (.inl (1, m, .inr (.inl f))) => if i < 0 ∨ m ≤ i.toNatClampNeg then none else some (.inl (n, L, .long (f i.toNatClampNeg) :: r, h))
      | _ => none
  | _ => none
def x_last (n : Nat) (L : XL) (st : List Value) (h : XH) : Option XO := match st with
  | .long x :: .int i :: .ref a :: r => match h[a]? with
      | some (.inl (1, m, .inr (.inl f))) => if i < 0 ∨ m ≤ i.toNatClampNeg then none else some (.inl (n, L, r, h.set a (.inl (1, m, .inr (.inl (vp_updL f i.toNatClampNeg x))))))
      | _ => none
  | _ => none
def x_aald (n : Nat) (L : XL) (st : List Value) (h : XH) : Option XO := match st with
  | .int i :: .ref a :: r => match h[a]? with
      | some (.inl (t, m, .inr (.inr (.inr (.inr f))))) => if i < 0 ∨ m ≤ i.toNatClampNeg ∨ (x_acl t).isNone = true then none else some (.inl (n, L, va_rf (f i.toNatClampNeg) :: r, h))
      | _ => none
  | _ => none
def x_aast (n : Nat) (L : XL) (st : List Value) (h : XH) : Option XO := match st with
  | .ref v :: .int i :: .ref a :: r => match h[a]? with
      | some (.inl (t, m, .inr (.inr (.inr (.inr f))))) => match h[v]? with
        | some (.inr (c, _)) => if i < 0 ∨ m ≤ i.toNatClampNeg ∨ ¬ x_acl t = some c then none else some (.inl (n, L, r, h.set a (.inl (t, m, .inr (.inr (.inr (.inr (va_up f i.toNatClampNeg (some v)))))))))
        | _ => none
      | _ => none
  | _ => none
def x_alen (X : XX) (n : Nat) (L : XL) (st : List Value) (h : XH) : Option XO := match st with
  | .ref a :: r => match x_ro X a with
    | some q => some (.inl (n, L, .int (Int32.ofNat q.1) :: r, h))
    | none => match h[a]? with
      | some (.inl (t, m, _)) => if t < 5 then some (.inl (n, L, .int (Int32.ofNat m) :: r, h)) else none
      | _ => none
  | _ => none
def x_newa (n : Nat) (L : XL) (st : List Value) (h : XH) (a0 : Nat → va_E) : Option XO := match st with
  | .int i :: r => if i < 0 ∨ 1000000 < i.toNatClampNeg ∨ 1000 ≤ h.length then none else some (.inl (n, L, .ref h.length :: r, h ++ [a0 i.toNatClampNeg]))
  | _ => none
def x_newo (n : Nat) (L : XL) (st : List Value) (h : XH) (ci : Nat) : Option XO := match x_fts[ci]? with
  | some l => if 1000 ≤ h.length then none else some (.inl (n, L, .ref h.length :: st, h ++ [.inr (ci, l.map x_def)]))
  | none => none
def x_cpy (n : Nat) (L : XL) (st : List Value) (h : XH) : Option XO := match st with
  | .int k :: .int dp :: .ref a1 :: .int sp :: .ref a0 :: r => match h[a0]? with
    | some (.inl (0, m0, .inl f)) => match h[a1]? with
      | some (.inl (0, m1, .inl g)) => if sp < 0 ∨ dp < 0 ∨ k < 0 ∨ m0 < sp.toNatClampNeg + k.toNatClampNeg ∨ m1 < dp.toNatClampNeg + k.toNatClampNeg ∨ 8 < (r.map fun v => v.category).sum then none else some (.inl (n, L, r, h.set a1 (.inl (0, m1, .inl (va_cpy f g sp.toNatClampNeg dp.toNatClampNeg k.toNatClampNeg)))))
      | _ => none
    | _ => none
  | _ => none
def x_call (μ n : Nat) (st : List Value) : Option XO := if st.length < n ∨ 8 < ((st.drop n).map fun v => v.category).sum then none else some (.inr (.inr (μ, (st.take n).reverse, st.drop n)))
def x_oin (n : Nat) (L : XL) (st : List Value) (h : XH) : Option XO := match st with
  | .ref _ :: r => if 8 < (r.map fun v => v.category).sum then none else some (.inl (n, L, r, h))
  | _ => none
def x_callV (μ n ci : Nat) (st : List Value) (h : XH) : Option XO := match st[n]? with
  | some (.ref a) => match h[a]? with
    | some (.inr (c, _)) => if c = ci then x_call μ (n + 1) st else none
    | _ => none
  | _ => none
def x_dup (st : List Value) : Option (List Value) := match st with
  | v :: r => if v.category = 1 then some (v :: v :: r) else none
  | _ => none
def x_dup2 (st : List Value) : Option (List Value) := match st with
  | v :: w :: r => if v.category = 1 ∧ w.category = 1 then some (v :: w :: v :: w :: r) else none
  | _ => none
def x_pop (st : List Value) : Option (List Value) := match st with
  | v :: r => if v.category = 1 then some r else none
  | _ => none
def x_ret (ty : Option FieldType) (st : List Value) (h : XH) : Option XO := match ty, st with
  | some t, [.int v] => if narrow t (.int v) = .int v then some (.inr (.inl (some (.int v), h))) else none
  | _, _ => none
def x_retL (ty : Option FieldType) (st : List Value) (h : XH) : Option XO := match ty, st with
  | some .long, [.long v] => some (.inr (.inl (some (.long v), h)))
  | _, _ => none
def x_retA (ty : Option FieldType) (st : List Value) (h : XH) : Option XO := match ty, st with
  | some (.object _), [.ref v] => some (.inr (.inl (some (.ref v), h)))
  | some (.object _), [.null] => some (.inr (.inl (some .null, h)))
  | _, _ => none
def x_retV (ty : Option FieldType) (st : List Value) (h : XH) : Option XO := match ty, st with
  | none, [] => some (.inr (.inl (none, h)))
  | _, _ => none
def x_inc (n : Nat) (L : XL) (st : List Value) (h : XH) (i : Nat) (k : Int) : Option XO := match x_ld L i with
  | some (.int x) => x_sx n st h (x_st1 L i (.int (x + Int32.ofInt k)))
  | _ => none
def x_fun (X : XX) (M : XM) (pc : Nat) (e : XE) (L : XL) (st : List Value) (h : XH) : Option XO := match e with
  | (ins, n, a, b, ci, _) => match ins with
    | .aconst_null => some (.inl (n, L, .null :: st, h))
    | .iconst k => some (.inl (n, L, .int (Int32.ofInt k) :: st, h))
    | .bipush k => some (.inl (n, L, .int (Int8.ofInt k).toInt32 :: st, h))
    | .sipush k => some (.inl (n, L, .int (Int16.ofInt k).toInt32 :: st, h))
    | .lconst k => some (.inl (n, L, .long (Int64.ofNat (k : Nat)) :: st, h))
    | .ldc _ => some (.inl (n, L, .int (Int32.ofNat a) :: st, h))
    | .ldc_w _ => some (.inl (n, L, .int (Int32.ofNat a) :: st, h))
    | .ldc2_w _ => some (.inl (n, L, .long (Int64.ofNat a) :: st, h))
    | .iload i => x_nx n L h (x_lc x_isI L i st)
    | .iload_n i => x_nx n L h (x_lc x_isI L (i : Nat) st)
    | .lload i => x_nx n L h (x_lc x_isL L i st)
    | .lload_n i => x_nx n L h (x_lc x_isL L (i : Nat) st)
    | .aload i => x_nx n L h (x_lc x_isA L i st)
    | .aload_n i => x_nx n L h (x_lc x_isA L (i : Nat) st)
    | .istore i => x_cI n L i st h
    | .istore_n i => x_cI n L (i : Nat) st h
    | .lstore i => x_cL n L i st h
    | .lstore_n i => x_cL n L (i : Nat) st h
    | .astore i => x_cA n L i st h
    | .astore_n i => x_cA n L (i : Nat) st h
    | .iinc i k => x_inc n L st h i k
    | .iadd => x_nx n L h (x_bI (fun x y => x + y) st)
    | .isub => x_nx n L h (x_bI (fun x y => x - y) st)
    | .imul => x_nx n L h (x_bI (fun x y => x * y) st)
    | .iand => x_nx n L h (x_bI (fun x y => x &&& y) st)
    | .ior => x_nx n L h (x_bI (fun x y => x ||| y) st)
    | .ixor => x_nx n L h (x_bI (fun x y => x ^^^ y) st)
    | .ishl => x_nx n L h (x_bI (fun x y => x <<< (y &&& 31)) st)
    | .ishr => x_nx n L h (x_bI (fun x y => x >>> (y &&& 31)) st)
    | .iushr => x_nx n L h (x_bI (fun x y => (x.toUInt32 >>> (y.toUInt32 &&& Int32.toUInt32 31)).toInt32) st)
    | .idiv => x_nx n L h (x_dI (fun x y => x / y) st)
    | .irem => x_nx n L h (x_dI (fun x y => x - x / y * y) st)
    | .ineg => x_nx n L h (x_uI (fun x => .int (-x)) st)
    | .i2l => x_nx n L h (x_uI (fun x => .long x.toInt64) st)
    | .i2b => x_nx n L h (x_uI (fun x => .int x.toInt8.toInt32) st)
    | .l2i => x_nx n L h (x_uL (fun x => .int x.toInt32) st)
    | .ladd => x_nx n L h (x_bL (fun x y => x + y) st)
    | .lmul => x_nx n L h (x_bL (fun x y => x * y) st)
    | .ldiv => x_nx n L h (x_dL (fun x y => x / y) st)
    | .lrem => x_nx n L h (x_dL (fun x y => x - x / y * y) st)
    | .lcmp => match st with
      | .long y :: .long x :: r => some (.inl (n, L, .int (lg_cmp x y) :: r, h))
      | _ => none
    | .dup => x_nx n L h (x_dup st)
    | .dup2 => x_nx n L h (x_dup2 st)
    | .pop => x_nx n L h (x_pop st)
    | .ifCond c _ => match st with
      | .int x :: r => some (.inl (if x_cdc c x 0 = true then a else n, L, r, h))
      | _ => none
    | .if_icmp c _ => match st with
      | .int y :: .int x :: r => some (.inl (if x_cdc c x y = true then a else n, L, r, h))
      | _ => none
    | .goto _ => some (.inl (a, L, st, h))
    | .ifnull _ => match st with
      | .ref _ :: r => some (.inl (n, L, r, h))
      | .null :: r => some (.inl (a, L, r, h))
      | _ => none
    | .ifnonnull _ => match st with
      | .ref _ :: r => some (.inl (a, L, r, h))
      | .null :: r => some (.inl (n, L, r, h))
      | _ => none
    | .tableswitch d lo hi offs => match st with
      | .int x :: r => match x_sw pc d lo hi offs x with
        | some t => some (.inl (t, L, r, h))
        | none => none
      | _ => none
    | .iaload => x_iald X n L st h
    | .iastore => x_iast n L st h
    | .laload => x_lald n L st h
    | .lastore => x_last n L st h
    | .aaload => x_aald n L st h
    | .aastore => x_aast n L st h
    | .arraylength => x_alen X n L st h
    | .newarray .int => x_newa n L st h (fun m => .inl (0, m, .inl (fun _ => 0)))
    | .newarray .long => x_newa n L st h (fun m => .inl (1, m, .inr (.inl (fun _ => 0))))
    | .anewarray _ => if (x_acl a).isNone = true then none else x_newa n L st h (fun m => .inl (a, m, .inr (.inr (.inr (.inr (fun _ => none))))))
    | .new _ => x_newo n L st h ci
    | .getfield _ => x_get n L st h ci b
    | .putfield _ => x_put (M.1.name == "<init>") n L st h ci b
    | .getstatic _ => some (.inl (n, L, .ref 1001 :: st, h))
    | .invokestatic _ => if a = 9999 then x_cpy n L st h else x_call a b st
    | .invokespecial _ => if a = 9998 then x_oin n L st h else x_call a (b + 1) st
    | .invokevirtual _ => x_callV a b ci st h
    | .ireturn => x_ret M.2.2.2.1 st h
    | .lreturn => x_retL M.2.2.2.1 st h
    | .areturn => x_retA M.2.2.2.1 st h
    | .return_ => x_retV M.2.2.2.1 st h
    | _ => none
def x_run (X : XX) (call : Nat → List Value → XH → Option Value → XH → Prop) (M : XM) : Nat → Nat → XL → List Value → XH → (Option Value → XH → Prop) → Prop
  | 0, _, _, _, _, _ => False
  | n + 1, pc, L, st, h, P => ∃ e, M.2.2.2.2[pc]? = some e ∧ match x_fun X M pc e L st h with
    | some (.inl q) => x_run X call M n q.1 q.2.1 q.2.2.1 q.2.2.2 P
    | some (.inr (.inl q)) => P q.1 q.2
    | some (.inr (.inr q)) => ∃ r1 h1, call q.1 q.2.1 h r1 h1 ∧ x_run X call M n e.2.1 L (r1.toList ++ q.2.2) h1 P
    | none => False
def x_exp (v : Value) : List (Option Value) := if v.category = 2 then [some v, none] else [some v]
def x_ent (args : List Value) (maxL : Nat) : XL := args.flatMap x_exp ++ List.replicate (maxL - (args.flatMap x_exp).length) none
def x_ev (X : XX) (T : List XM) : Nat → Nat → List Value → XH → Option Value → XH → Prop
  | 0, _, _, _, _, _ => False
  | d + 1, μ, args, h, r, h' => ∃ M n, T[μ]? = some M ∧ (args.flatMap x_exp).length ≤ M.2.2.1 ∧ x_run X (x_ev X T d) M n 0 (x_ent args M.2.2.1) [] h (fun r' h'' => r' = r ∧ h'' = h')
/-- the judgement in which methods are proved -/
def Wp (X : XX) (T : List XM) (d : Nat) (M : XM) (pc : Nat) (L : XL) (st : List Value) (h : XH) (P : Option Value → XH → Prop) : Prop := ∃ n, x_run X (x_ev X T d) M n pc L st h P
end
